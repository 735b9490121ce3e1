section
/-! Runs that come to an end within N steps: what holds there. That they do come to one, the contracts say. -/
abbrev pw_Q : Type := Option Value → ez_H → Prop
noncomputable def pw (N : Nat) (X : ez_X) (m pc : Nat) (ls st : List Value) (h : ez_H) (Q : pw_Q) : Prop := ∀ (c k F : Nat), F ≤ N → ∀ (r : Option Value) (h' : ez_H) (c' k' : Nat), ev_R X F m pc ls st h c k = some (r, h', c', k') → Q r h'
section
variable {N : Nat} {X : ez_X} {m pc pc' : Nat} {ls ls' st st' : List Value} {h h' : ez_H} {Q : pw_Q}
theorem pw_le {N' : Nat} (e : pw N X m pc ls st h Q) (hN : N' ≤ N) : pw N' X m pc ls st h Q := fun c k F hF => e c k F (Nat.le_trans hF hN)
theorem pw_p (e : pw (N + 1) X m pc ls st h Q) : pw N X m pc ls st h Q := pw_le e (Nat.le_succ N)
theorem pw_mono {Q' : pw_Q} (e : pw N X m pc ls st h Q) (hQ : ∀ r h1, Q r h1 → Q' r h1) : pw N X m pc ls st h Q' := fun c k F hF r h1 c1 k1 hz => hQ _ _ (e c k F hF r h1 c1 k1 hz)
theorem pw_and {Q' : pw_Q} (e : pw N X m pc ls st h Q) (e' : pw N X m pc ls st h Q') : pw N X m pc ls st h (fun r h1 => Q r h1 ∧ Q' r h1) := fun c k F hF r h1 c1 k1 hz => ⟨e c k F hF r h1 c1 k1 hz, e' c k F hF r h1 c1 k1 hz⟩
theorem pw_up {a : Nat} (ha : 0 < a) (e : ∀ (c k F : Nat), F ≤ N → ∀ (r : Option Value) (h1 : ez_H) (c1 k1 : Nat), fx_up X a (ev_R X F) m pc ls st h c k = some (r, h1, c1, k1) → Q r h1) : pw (N + 1) X m pc ls st h Q := by
  intro c k F hF r h1 c1 k1 hz
  cases F with
  | zero => cases hz
  | succ F =>
    refine e c k F (by omega) r h1 c1 k1 ?_
    rw [fx_up_ev, show F + a = F + 1 + (a - 1) by omega]
    exact ev_mono X (F + 1) (a - 1) hz
theorem pw_seg {a : Nat} (ha : 0 < a) (s : ∀ (c k : Nat) (G : ez_F), fx_up X a G m pc ls st h c k = G m pc' ls' st' h' c k) (e : pw N X m pc' ls' st' h' Q) : pw (N + 1) X m pc ls st h Q :=
  pw_up ha fun c k F hF r h1 c1 k1 hz => e c k F hF r h1 c1 k1 ((s c k _).symm.trans hz)
theorem pw_ret {a : Nat} {r0 : Option Value} (ha : 0 < a) (s : ∀ (c k : Nat) (G : ez_F), fx_up X a G m pc ls st h c k = some (r0, h', c, k)) (e : Q r0 h') : pw (N + 1) X m pc ls st h Q :=
  pw_up ha fun c k F hF r h1 c1 k1 hz => by
    rw [s] at hz
    injection hz with hz
    injection hz with z1 hz
    injection hz with z2 hz
    subst z1 z2
    exact e
theorem pw_if {a pc1 pc2 : Nat} {P : Prop} {d : Decidable P} {ls1 ls2 st1 st2 : List Value} {h1 h2 : ez_H} (ha : 0 < a) (s : ∀ (c k : Nat) (G : ez_F), fx_up X a G m pc ls st h c k = bif @decide P d then G m pc1 ls1 st1 h1 c k else G m pc2 ls2 st2 h2 c k)
    (e1 : P → pw N X m pc1 ls1 st1 h1 Q) (e2 : ¬ P → pw N X m pc2 ls2 st2 h2 Q) : pw (N + 1) X m pc ls st h Q :=
  pw_up ha fun c k F hF r h3 c1 k1 hz => by
    rw [s] at hz
    by_cases hP : P
    · rw [decide_eq_true hP] at hz
      exact e1 hP c k F hF r h3 c1 k1 hz
    · rw [decide_eq_false hP] at hz
      exact e2 hP c k F hF r h3 c1 k1 hz
theorem pw_0 : pw 0 X m pc ls st h Q := fun c k F hF r h1 c1 k1 hz => by
  obtain rfl := Nat.le_zero.mp hF
  cases hz
/-- a method from its beginning -/
noncomputable def pe (N : Nat) (X : ez_X) (q : Nat) (as : List Value) (h : ez_H) (Q : pw_Q) : Prop := ∀ F, F ≤ N → ∀ (r : Option Value) (h' : ez_H) (c' k' : Nat), ev_R X F q 0 (ez_lay as) [] h 0 0 = some (r, h', c', k') → Q r h'
theorem pe_of {q : Nat} {as : List Value} (e : pw N X q 0 (ez_lay as) [] h Q) : pe N X q as h Q := e 0 0
theorem pe_mono {q : Nat} {as : List Value} {Q' : pw_Q} (e : pe N X q as h Q) (hQ : ∀ r h1, Q r h1 → Q' r h1) : pe N X q as h Q' := fun F hF r h1 c1 k1 hz => hQ _ _ (e F hF r h1 c1 k1 hz)
theorem pe_and {q : Nat} {as : List Value} {Q' : pw_Q} (e : pe N X q as h Q) (e' : pe N X q as h Q') : pe N X q as h (fun r h1 => Q r h1 ∧ Q' r h1) := fun F hF r h1 c1 k1 hz => ⟨e F hF r h1 c1 k1 hz, e' F hF r h1 c1 k1 hz⟩
theorem pw_call {a q : Nat} {as : List Value} {Q1 : pw_Q} (ha : 0 < a) (s : ∀ (c k : Nat) (G : ez_F), fx_up X a G m pc ls st h c k = ev_C G q as h' fun r h1 c1 k1 => G m pc' ls' (r.toList ++ st') h1 (c + c1) (k + k1))
    (e : pe N X q as h' Q1) (e2 : ∀ (r : Option Value) (h1 : ez_H), Q1 r h1 → pw N X m pc' ls' (r.toList ++ st') h1 Q) : pw (N + 1) X m pc ls st h Q :=
  pw_up ha fun c k F hF r h1 c1 k1 hz => by
    rw [s] at hz
    unfold ev_C at hz
    split at hz
    · rename_i r2 h2 c2 k2 hz2
      exact e2 r2 h2 (e F hF r2 h2 c2 k2 hz2) _ _ F hF r h1 c1 k1 hz
    · cases hz
/-- an end is one -/
theorem ev_det {c k F F' : Nat} {x x' : Option Value × ez_H × Nat × Nat} (e : ev_R X F m pc ls st h c k = some x) (e' : ev_R X F' m pc ls st h c k = some x') : x = x' := by
  have a := ev_mono X F F' e
  have b := ev_mono X F' F e'
  rw [Nat.add_comm F' F, a] at b
  injection b
theorem pe_W {q : Nat} {as : List Value} {Q1 : ev_Q} (e : ev_W X q 0 (ez_lay as) [] h 0 0 Q1) : pe N X q as h (fun r h1 => ∃ c1 k1, Q1 r h1 c1 k1) := by
  intro F _ r h1 c1 k1 hz
  obtain ⟨r2, h2, c2, k2, q, F2, hF2⟩ := e
  have := ev_det hz (hF2 0)
  injection this with t1 this
  injection this with t2 this
  injection this with t3 t4
  subst t1 t2 t3 t4
  exact ⟨_, _, q⟩
theorem pe_is {q : Nat} {as : List Value} {r0 : Option Value} {h0 : ez_H} (e : ev_W X q 0 (ez_lay as) [] h 0 0 (ev_is r0 h0)) : pe N X q as h (fun r h1 => r = r0 ∧ h1 = h0) := pe_mono (pe_W e) fun r h1 ⟨_, _, z1, z2, _⟩ => ⟨z1, z2⟩
theorem pw_callp {a q : Nat} {as : List Value} {r0 : Option Value} {h0 : ez_H} (ha : 0 < a) (s : ∀ (c k : Nat) (G : ez_F), fx_up X a G m pc ls st h c k = ev_C G q as h' fun r h1 c1 k1 => G m pc' ls' (r.toList ++ st') h1 (c + c1) (k + k1))
    (e : pe N X q as h' (fun r h1 => r = r0 ∧ h1 = h0)) (e2 : pw N X m pc' ls' (r0.toList ++ st') h0 Q) : pw (N + 1) X m pc ls st h Q :=
  pw_call ha s e fun r h1 hz => by rw [hz.1, hz.2]; exact e2
/-- what the contract says, and what holds at every end -/
theorem W_pe {q : Nat} {as : List Value} {Q1 : ev_Q} {Q2 : pw_Q} (e : ev_W X q 0 (ez_lay as) [] h 0 0 Q1) (e2 : ∀ N, pe N X q as h Q2) : ev_W X q 0 (ez_lay as) [] h 0 0 (fun r h1 c1 k1 => Q1 r h1 c1 k1 ∧ Q2 r h1) := by
  obtain ⟨r, h1, c1, k1, hq, F, hF⟩ := e
  exact ⟨r, h1, c1, k1, ⟨hq, e2 F F (Nat.le_refl F) r h1 c1 k1 (hF 0)⟩, F, hF⟩
end
section
variable {N : Nat} {X : ez_X} {m pc a b cut w d n p : Nat} {ls st : List Value} {h : ez_H} {Q : pw_Q} {i x : Int32} {y : Int64} {f : Nat → Int32} {g : Nat → Int64}
theorem ev_in_inv {α : Type} {i : Int32} {n : Nat} {x y : α} (h : ez_in i n x = some y) : ev_ix i n ∧ x = y := by
  unfold ez_in at h
  cases h1 : decide (i < 0) with
  | true => rw [h1] at h; cases h
  | false =>
    rw [h1] at h
    cases h2 : Nat.ble n i.toNatClampNeg with
    | true => rw [h2] at h; cases h
    | false =>
      rw [h2] at h
      simp only [cond_false] at h
      injection h with h
      refine ⟨⟨of_decide_eq_false h1, ?_⟩, h⟩
      apply Classical.byContradiction
      intro h3
      rw [Nat.ble_eq_true_of_le (Nat.not_lt.mp h3)] at h2
      cases h2
/-- one instruction of those that neither call, jump nor end -/
theorem pw_b {len : Nat} {I : Instr} (e1 : ∀ (G : ez_F) (c k : Nat), ez_stp ez_P0 X ez_ty0 ez_nw0 (ez_mL ez_M0) G m pc ls st h c k = match ez_b X ez_ty0 I a b (ez_cut cut ls) st h with
      | some (ls', st', h') => G m (pc + len) ls' st' h' c k
      | none => none) (e : ∀ ls' st' h', ez_b X ez_ty0 I a b (ez_cut cut ls) st h = some (ls', st', h') → pw N X m (pc + len) ls' st' h' Q) : pw (N + 1) X m pc ls st h Q :=
  pw_up (a := 1) (by decide) fun c k F hF r h1 c1 k1 hz => by
    rw [ev_up1, e1] at hz
    split at hz
    · rename_i ls' st' h' hb
      exact e ls' st' h' hb c k F hF r h1 c1 k1 hz
    · cases hz
theorem pw_iald (hP : ez_P0 m pc = some (.iaload, 1, a, b, cut, w, d)) (hp : h[p]? = some (.inl (n, .inl f)))
    (e : ev_ix i n → pw N X m (pc + 1) (ez_cut cut ls) (.int (f i.toNatClampNeg) :: st) h Q) : pw (N + 1) X m pc ls (.int i :: .ref p :: st) h Q := by
  refine pw_b (I := .iaload) (len := 1) (a := a) (b := b) (cut := cut) (fun G c k => ?_) fun ls' st' h' hb => ?_
  · unfold ez_stp
    rw [hP]
    rfl
  · simp only [ez_b, ez_iald, hp] at hb
    obtain ⟨z, h1, h2⟩ := Option.map_eq_some_iff.mp hb
    obtain ⟨h3, h4⟩ := ev_in_inv h1
    injection h2 with h2 h5
    injection h5 with h5 h6
    subst h2 h5 h6 h4
    exact e h3
theorem pw_lald (hP : ez_P0 m pc = some (.laload, 1, a, b, cut, w, d)) (hp : h[p]? = some (.inl (n, .inr (.inl g))))
    (e : ev_ix i n → pw N X m (pc + 1) (ez_cut cut ls) (.long (g i.toNatClampNeg) :: st) h Q) : pw (N + 1) X m pc ls (.int i :: .ref p :: st) h Q := by
  refine pw_b (I := .laload) (len := 1) (a := a) (b := b) (cut := cut) (fun G c k => ?_) fun ls' st' h' hb => ?_
  · unfold ez_stp
    rw [hP]
    rfl
  · simp only [ez_b, ez_lald, hp] at hb
    obtain ⟨z, h1, h2⟩ := Option.map_eq_some_iff.mp hb
    obtain ⟨h3, h4⟩ := ev_in_inv h1
    injection h2 with h2 h5
    injection h5 with h5 h6
    subst h2 h5 h6 h4
    exact e h3
theorem pw_iast {h2 : ez_H} (hP : ez_P0 m pc = some (.iastore, 1, a, b, cut, w, d)) (hp : h[p]? = some (.inl (n, .inl f))) (hs : h.set p (.inl (n, .inl (upd f i.toNatClampNeg x))) = h2)
    (e : ev_ix i n → pw N X m (pc + 1) (ez_cut cut ls) st h2 Q) : pw (N + 1) X m pc ls (.int x :: .int i :: .ref p :: st) h Q := by
  refine pw_b (I := .iastore) (len := 1) (a := a) (b := b) (cut := cut) (fun G c k => ?_) fun ls' st' h' hb => ?_
  · unfold ez_stp
    rw [hP]
    rfl
  · simp only [ez_b, ez_iast, hp] at hb
    obtain ⟨z, h1, h3⟩ := Option.map_eq_some_iff.mp hb
    obtain ⟨h4, h5⟩ := ev_in_inv h1
    injection h3 with h3 h6
    injection h6 with h6 h7
    subst h3 h6 h7 h5
    rw [← hs] at e
    exact e h4
theorem pw_last {h2 : ez_H} (hP : ez_P0 m pc = some (.lastore, 1, a, b, cut, w, d)) (hp : h[p]? = some (.inl (n, .inr (.inl g)))) (hs : h.set p (.inl (n, .inr (.inl (vp_updL g i.toNatClampNeg y)))) = h2)
    (e : ev_ix i n → pw N X m (pc + 1) (ez_cut cut ls) st h2 Q) : pw (N + 1) X m pc ls (.long y :: .int i :: .ref p :: st) h Q := by
  refine pw_b (I := .lastore) (len := 1) (a := a) (b := b) (cut := cut) (fun G c k => ?_) fun ls' st' h' hb => ?_
  · unfold ez_stp
    rw [hP]
    rfl
  · simp only [ez_b, ez_last, hp] at hb
    obtain ⟨z, h1, h3⟩ := Option.map_eq_some_iff.mp hb
    obtain ⟨h4, h5⟩ := ev_in_inv h1
    injection h3 with h3 h6
    injection h6 with h6 h7
    subst h3 h6 h7 h5
    rw [← hs] at e
    exact e h4
theorem pw_alenI (hP : ez_P0 m pc = some (.arraylength, 1, a, b, cut, w, d)) (hp : h[p]? = some (.inl (n, .inl f))) (e : pw N X m (pc + 1) (ez_cut cut ls) (.int (Int32.ofNat n) :: st) h Q) : pw (N + 1) X m pc ls (.ref p :: st) h Q := by
  refine pw_b (I := .arraylength) (len := 1) (a := a) (b := b) (cut := cut) (fun G c k => ?_) fun ls' st' h' hb => ?_
  · unfold ez_stp
    rw [hP]
    rfl
  · simp only [ez_b, ez_alen, hp, Option.map_some] at hb
    injection hb with hb
    injection hb with h2 h5
    injection h5 with h5 h6
    subst h2 h5 h6
    exact e
theorem pw_alenJ (hP : ez_P0 m pc = some (.arraylength, 1, a, b, cut, w, d)) (hp : h[p]? = some (.inl (n, .inr (.inl g)))) (e : pw N X m (pc + 1) (ez_cut cut ls) (.int (Int32.ofNat n) :: st) h Q) : pw (N + 1) X m pc ls (.ref p :: st) h Q := by
  refine pw_b (I := .arraylength) (len := 1) (a := a) (b := b) (cut := cut) (fun G c k => ?_) fun ls' st' h' hb => ?_
  · unfold ez_stp
    rw [hP]
    rfl
  · simp only [ez_b, ez_alen, hp, Option.map_some] at hb
    injection hb with hb
    injection hb with h2 h5
    injection h5 with h5 h6
    subst h2 h5 h6
    exact e
theorem pw_idiv {u v : Int32} (hP : ez_P0 m pc = some (.idiv, 1, a, b, cut, w, d)) (e : ¬ v = 0 → pw N X m (pc + 1) (ez_cut cut ls) (.int (u / v) :: st) h Q) : pw (N + 1) X m pc ls (.int v :: .int u :: st) h Q := by
  refine pw_b (I := .idiv) (len := 1) (a := a) (b := b) (cut := cut) (fun G c k => ?_) fun ls' st' h' hb => ?_
  · unfold ez_stp
    rw [hP]
    rfl
  · simp only [ez_b, ez_binD] at hb
    by_cases hv : v = 0
    · rw [decide_eq_true hv] at hb
      cases hb
    · rw [decide_eq_false hv] at hb
      simp only [cond_false, Option.map_some] at hb
      injection hb with hb
      injection hb with h2 h5
      injection h5 with h5 h6
      subst h2 h5 h6
      exact e hv
theorem pw_irem {u v : Int32} (hP : ez_P0 m pc = some (.irem, 1, a, b, cut, w, d)) (e : ¬ v = 0 → pw N X m (pc + 1) (ez_cut cut ls) (.int (u - u / v * v) :: st) h Q) : pw (N + 1) X m pc ls (.int v :: .int u :: st) h Q := by
  refine pw_b (I := .irem) (len := 1) (a := a) (b := b) (cut := cut) (fun G c k => ?_) fun ls' st' h' hb => ?_
  · unfold ez_stp
    rw [hP]
    rfl
  · simp only [ez_b, ez_binD] at hb
    by_cases hv : v = 0
    · rw [decide_eq_true hv] at hb
      cases hb
    · rw [decide_eq_false hv] at hb
      simp only [cond_false, Option.map_some] at hb
      injection hb with hb
      injection hb with h2 h5
      injection h5 with h5 h6
      subst h2 h5 h6
      exact e hv
/-- a truth value is answered -/
theorem pw_zret {v : Int32} (hP : ez_P0 m pc = some (.ireturn, 1, a, 1, cut, w, d)) (e : v = 0 ∨ v = 1 → Q (some (.int v)) h) : pw (N + 1) X m pc ls [.int v] h Q :=
  pw_up (a := 1) (by decide) fun c k F hF r h1 c1 k1 hz => by
    rw [ev_up1] at hz
    unfold ez_stp at hz
    rw [hP] at hz
    have hz : (bif Nat.beq 1 0 || decide (v = 0) || decide (v = 1) then some (some (Value.int v), h, c, k) else none) = some (r, h1, c1, k1) := hz
    obtain ⟨z1, z2⟩ := ez_bif hz
    injection z2 with z2
    injection z2 with z3 z2
    injection z2 with z4 z5
    subst z3 z4
    refine e ?_
    simpa using z1
/-- what an instruction forgets of the locals may be forgotten ahead of it -/
theorem pw_cutl {I : Instr} {len : Nat} (hP : ez_P0 m pc = some (I, len, a, b, cut, w, d)) (e : pw N X m pc (ez_cut cut ls) st h Q) : pw N X m pc ls st h Q := by
  intro c k F hF r h1 c1 k1 hz
  cases F with
  | zero => cases hz
  | succ F =>
    refine e c k (F + 1) hF r h1 c1 k1 ?_
    rw [← fx_up_ev X F 1, ev_up1] at hz ⊢
    rw [← hz]
    unfold ez_stp
    rw [hP]
    simp only [ev_cut2]
end
/-! within a row's ends, by numbers -/
theorem ix_lt {j n : Nat} (hj : j < 2147483648) (h : ev_ix (Int32.ofNat j) n) : j < n := by
  have h2 := h.2
  rw [show (Int32.ofNat j).toNatClampNeg = (Int32.ofNat j).toInt.toNat from rfl, Int32.toInt_ofNat_of_lt (by omega)] at h2
  omega
theorem ix_cl {j : Nat} (hj : j < 2147483648) : (Int32.ofNat j).toNatClampNeg = j := by
  rw [show (Int32.ofNat j).toNatClampNeg = (Int32.ofNat j).toInt.toNat from rfl, Int32.toInt_ofNat_of_lt (by omega)]
  rfl
theorem io_add (a b : Nat) : Int32.ofNat a + Int32.ofNat b = Int32.ofNat (a + b) := (Int32.ofNat_add a b).symm
theorem io_mul (a b : Nat) : Int32.ofNat a * Int32.ofNat b = Int32.ofNat (a * b) := (Int32.ofNat_mul a b).symm
theorem io_sub {a b : Nat} (h : b ≤ a) : Int32.ofNat a - Int32.ofNat b = Int32.ofNat (a - b) := by
  have e : Int32.ofNat a = Int32.ofNat (a - b) + Int32.ofNat b := by rw [io_add]; congr 1; omega
  rw [e, Int32.add_sub_cancel]
theorem io_le {a b : Nat} (ha : a < 2147483648) (hb : b < 2147483648) : Int32.ofNat a ≤ Int32.ofNat b ↔ a ≤ b := by
  rw [Int32.le_iff_toInt_le, Int32.toInt_ofNat_of_lt (by omega), Int32.toInt_ofNat_of_lt (by omega)]
  omega
theorem io_lt {a b : Nat} (ha : a < 2147483648) (hb : b < 2147483648) : Int32.ofNat a < Int32.ofNat b ↔ a < b := by
  rw [Int32.lt_iff_toInt_lt, Int32.toInt_ofNat_of_lt (by omega), Int32.toInt_ofNat_of_lt (by omega)]
  omega
theorem io_eq {a b : Nat} (ha : a < 2147483648) (hb : b < 2147483648) : Int32.ofNat a = Int32.ofNat b ↔ a = b := by
  rw [← Int32.toInt_inj, Int32.toInt_ofNat_of_lt (by omega), Int32.toInt_ofNat_of_lt (by omega)]
  omega
theorem io_nat {x : Int32} (h : 0 ≤ x.toInt) : x = Int32.ofNat x.toInt.toNat := Int32.toInt_inj.mp (by
  have := Int32.toInt_lt x
  rw [Int32.toInt_ofNat_of_lt (by omega)]
  omega)
theorem io_ti {a : Nat} (h : a < 2147483648) : (Int32.ofNat a).toInt = a := Int32.toInt_ofNat_of_lt (by omega)
theorem io_cl {a : Nat} (h : a < 2147483648) : (Int32.ofNat a).toNatClampNeg = a := ix_cl h
/-! what reads and writes within a row's ends come to -/
section
variable {N : Nat} {X : ez_X} {I : Nat → Nat → Int32} {J : Nat → Nat → Int64} {R : Nat → Nat} {T : List ez_C} {p n : Nat} {t : List (Nat × Nat)} {i x : Int32} {y : Int64}
theorem pe_at (hd : cx_Ds[p]? = some (0, n, t)) (hn : n < 2 ^ 31) : pe N X 3 [.ref p, .int i] (ev_hp I J R T) (fun r h => r = some (.int (ev_at n (I p) i)) ∧ h = ev_hp I J R T) := pe_is (ec_at X _ n p i (I p) (cx_getI hd) hn)
theorem pe_atJ (hd : cx_Ds[p]? = some (1, n, t)) (hn : n < 2 ^ 31) : pe N X 4 [.ref p, .int i] (ev_hp I J R T) (fun r h => r = some (.long (ev_atJ n (J p) i)) ∧ h = ev_hp I J R T) := pe_is (ec_atJ X _ n p i (J p) (cx_getJ hd) hn)
theorem pe_put (hd : cx_Ds[p]? = some (0, n, t)) (hn : n < 2 ^ 31) : pe N X 38 [.ref p, .int i, .int x] (ev_hp I J R T) (fun r h => r = none ∧ h = ev_hp (ev_sI I p (ev_put n (I p) i x)) J R T) := by
  have e := pe_is (N := N) (ec_put X _ n p i x (I p) (cx_getI (I := I) (J := J) (R := R) (T := T) hd) hn)
  rw [cx_setI hd] at e
  exact e
theorem pe_putJ (hd : cx_Ds[p]? = some (1, n, t)) (hn : n < 2 ^ 31) : pe N X 39 [.ref p, .int i, .long y] (ev_hp I J R T) (fun r h => r = none ∧ h = ev_hp I (ev_sJ J p (ev_putJ n (J p) i y)) R T) := by
  have e := pe_is (N := N) (ec_putJ X _ n p i y (J p) (cx_getJ (I := I) (J := J) (R := R) (T := T) hd) hn)
  rw [cx_setJ hd] at e
  exact e
end
theorem at_in {n j : Nat} {f : Nat → Int32} (hj : j < n) (hn : n < 2147483648) : ev_at n f (Int32.ofNat j) = f j := by
  unfold ev_at
  rw [if_neg (by rw [show (0 : Int32) = Int32.ofNat 0 from rfl, io_lt (by omega) (by omega)]; omega), if_neg (by rw [io_le (by omega) (by omega)]; omega), ix_cl (by omega)]
theorem atJ_in {n j : Nat} {f : Nat → Int64} (hj : j < n) (hn : n < 2147483648) : ev_atJ n f (Int32.ofNat j) = f j := by
  unfold ev_atJ
  rw [if_neg (by rw [show (0 : Int32) = Int32.ofNat 0 from rfl, io_lt (by omega) (by omega)]; omega), if_neg (by rw [io_le (by omega) (by omega)]; omega), ix_cl (by omega)]
theorem put_in {n j : Nat} {f : Nat → Int32} {x : Int32} (hj : j < n) (hn : n < 2147483648) : ev_put n f (Int32.ofNat j) x = upd f j x := by
  unfold ev_put
  rw [if_neg (by rw [show (0 : Int32) = Int32.ofNat 0 from rfl, io_lt (by omega) (by omega)]; omega), if_neg (by rw [io_le (by omega) (by omega)]; omega), ix_cl (by omega)]
theorem putJ_in {n j : Nat} {f : Nat → Int64} {x : Int64} (hj : j < n) (hn : n < 2147483648) : ev_putJ n f (Int32.ofNat j) x = vp_updL f j x := by
  unfold ev_putJ
  rw [if_neg (by rw [show (0 : Int32) = Int32.ofNat 0 from rfl, io_lt (by omega) (by omega)]; omega), if_neg (by rw [io_le (by omega) (by omega)]; omega), ix_cl (by omega)]
end
section
/-! Rows that rise: a set is put in its place; what lies in them; that they are few. -/
theorem lg_lt (u v : Int64) : lg_cmp u v < 0 ↔ u.toInt < v.toInt := by
  obtain ⟨h1, h2, h3, h4⟩ := cx_lgcmp u v
  rw [Int32.lt_iff_toInt_lt, show (0 : Int32).toInt = 0 from by decide]
  exact h3
theorem lg_eq (u v : Int64) : lg_cmp u v = 0 ↔ u = v := (fs_cmp u v).2
theorem lg_le (u v : Int64) : lg_cmp u v ≤ 0 ↔ u.toInt ≤ v.toInt := (fs_cmp u v).1
theorem sI2 (I : Nat → Nat → Int32) (a : Nat) (f g : Nat → Int32) : ev_sI (ev_sI I a f) a g = ev_sI I a g := by
  funext q
  by_cases h : q = a
  · subst h; rw [cx_sI_s, cx_sI_s]
  · rw [cx_sI_n _ _ h, cx_sI_n _ _ h, cx_sI_n _ _ h]
theorem upd_s (f : Nat → Int32) (k : Nat) (x : Int32) : upd f k x k = x := by simp [upd]
theorem upd_n (f : Nat → Int32) {k q : Nat} (x : Int32) (h : q ≠ k) : upd f k x q = f q := by simp [upd, h]
theorem upd_2 (f : Nat → Int32) (k : Nat) (x y : Int32) : upd (upd f k x) k y = upd f k y := by
  funext q
  by_cases h : q = k
  · subst h; rw [upd_s, upd_s]
  · rw [upd_n _ _ h, upd_n _ _ h, upd_n _ _ h]
theorem updL_s (f : Nat → Int64) (k : Nat) (x : Int64) : vp_updL f k x k = x := by simp [vp_updL]
theorem updL_n (f : Nat → Int64) {k q : Nat} (x : Int64) (h : q ≠ k) : vp_updL f k x q = f q := by simp [vp_updL, h]
theorem sI_self (I : Nat → Nat → Int32) (a : Nat) : ev_sI I a (I a) = I := by
  funext q
  by_cases h : q = a
  · subst h; rw [cx_sI_s]
  · rw [cx_sI_n _ _ h]
theorem upd_self (f : Nat → Int32) (k : Nat) : upd f k (f k) = f := by
  funext q
  by_cases h : q = k
  · subst h; rw [upd_s]
  · rw [upd_n _ _ h]
/-- a part of a row, one place on -/
noncomputable def rw_sh (f : Nat → Int64) (B i n : Nat) : Nat → Int64 := fun q => if B + i < q ∧ q ≤ B + n then f (q - 1) else f q
theorem rw_sh_0 (f : Nat → Int64) (B n : Nat) : rw_sh f B n n = f := by
  funext q
  unfold rw_sh
  rw [if_neg (by omega)]
theorem rw_sh_1 (f : Nat → Int64) (B i n : Nat) (h0 : 0 < i) (h1 : i ≤ n) : vp_updL (rw_sh f B i n) (B + i) (rw_sh f B i n (B + i - 1)) = rw_sh f B (i - 1) n := by
  funext q
  unfold vp_updL rw_sh
  by_cases hq : q = B + i
  · rw [if_pos hq, if_neg (by omega), if_pos (by omega)]
    congr 1
    omega
  · rw [if_neg hq]
    by_cases h2 : B + i < q ∧ q ≤ B + n
    · rw [if_pos h2, if_pos (by omega)]
    · rw [if_neg h2, if_neg (by omega)]
noncomputable def rw_ins (f : Nat → Int64) (B k n : Nat) (v : Int64) : Nat → Int64 := vp_updL (rw_sh f B k n) (B + k) v
theorem rw_ins_at (f : Nat → Int64) (B k n : Nat) (v : Int64) (j : Nat) : rw_ins f B k n v (B + j) = if j = k then v else if k < j ∧ j ≤ n then f (B + (j - 1)) else f (B + j) := by
  unfold rw_ins vp_updL rw_sh
  by_cases h : j = k
  · rw [if_pos (by omega), if_pos h]
  · rw [if_neg (by omega), if_neg h]
    by_cases h2 : k < j ∧ j ≤ n
    · rw [if_pos (by omega), if_pos h2, show B + j - 1 = B + (j - 1) by omega]
    · rw [if_neg (by omega), if_neg h2]
theorem rw_ins_out (f : Nat → Int64) {B k n q : Nat} (v : Int64) (hk : k ≤ n) (hq : q < B ∨ B + n < q) : rw_ins f B k n v q = f q := by
  unfold rw_ins vp_updL rw_sh
  rw [if_neg (by omega), if_neg (by omega)]
noncomputable def srt (f : Nat → Int64) (B n : Nat) : Prop := ∀ a b, a < b → b < n → (f (B + a)).toInt < (f (B + b)).toInt
noncomputable def inrow (f : Nat → Int64) (B n : Nat) (v : Int64) : Prop := ∃ a, a < n ∧ f (B + a) = v
section
variable {f g : Nat → Int64} {B C k n m : Nat} {v : Int64}
theorem srt_below (h : srt f B n) (hk : k ≤ n) (lo : k = 0 ∨ (f (B + (k - 1))).toInt < v.toInt) (a : Nat) (ha : a < k) : (f (B + a)).toInt < v.toInt := by
  rcases lo with rfl | lo
  · omega
  · by_cases h2 : a = k - 1
    · rw [h2]; exact lo
    · exact Int.lt_trans (h a (k - 1) (by omega) (by omega)) lo
theorem srt_ins (h : srt f B n) (hk : k ≤ n) (hi : ∀ a : Nat, k ≤ a → a < n → v.toInt < (f (B + a)).toInt) (lo : k = 0 ∨ (f (B + (k - 1))).toInt < v.toInt) : srt (rw_ins f B k n v) B (n + 1) := by
  have bl := srt_below h hk lo
  intro a b hab hb
  rw [rw_ins_at, rw_ins_at]
  by_cases hbk : b = k
  · rw [if_pos hbk, if_neg (by omega), if_neg (by omega)]
    exact bl a (by omega)
  rw [if_neg hbk]
  by_cases hb2 : k < b ∧ b ≤ n
  · rw [if_pos hb2]
    by_cases hak : a = k
    · rw [if_pos hak]
      exact hi _ (by omega) (by omega)
    · rw [if_neg hak]
      by_cases ha2 : k < a ∧ a ≤ n
      · rw [if_pos ha2]
        exact h _ _ (by omega) (by omega)
      · rw [if_neg ha2]
        exact h _ _ (by omega) (by omega)
  · rw [if_neg hb2, if_neg (by omega), if_neg (by omega)]
    exact h _ _ hab (by omega)
theorem in_ins (hk : k ≤ n) (w : Int64) : inrow (rw_ins f B k n v) B (n + 1) w ↔ inrow f B n w ∨ w = v := by
  constructor
  · rintro ⟨a, ha, hw⟩
    rw [rw_ins_at] at hw
    split at hw
    · exact Or.inr hw.symm
    · split at hw
      · exact Or.inl ⟨a - 1, by omega, hw⟩
      · exact Or.inl ⟨a, by omega, hw⟩
  · rintro (⟨a, ha, hw⟩ | rfl)
    · by_cases h : a < k
      · exact ⟨a, by omega, by rw [rw_ins_at, if_neg (by omega), if_neg (by omega)]; exact hw⟩
      · exact ⟨a + 1, by omega, by rw [rw_ins_at, if_neg (by omega), if_pos (by omega), Nat.add_sub_cancel]; exact hw⟩
    · exact ⟨k, by omega, by rw [rw_ins_at, if_pos rfl]⟩
/-- two rows that rise and hold the same are the same -/
theorem srt_inj (h : srt f B n) {a b : Nat} (ha : a < n) (hb : b < n) (e : f (B + a) = f (B + b)) : a = b := by
  rcases Nat.lt_trichotomy a b with h2 | h2 | h2
  · have := h a b h2 hb
    rw [e] at this
    omega
  · exact h2
  · have := h b a h2 ha
    rw [e] at this
    omega
theorem srt_le (h : srt f B n) (h2 : srt g C m) (hs : ∀ v, inrow f B n v → inrow g C m v) : ∀ a, a < n → a < m ∧ (g (C + a)).toInt ≤ (f (B + a)).toInt := by
  intro a
  induction a with
  | zero =>
    intro ha
    obtain ⟨b, hb, e⟩ := hs _ ⟨0, ha, rfl⟩
    refine ⟨by omega, ?_⟩
    rw [← e]
    by_cases hb0 : b = 0
    · rw [hb0]
      exact Int.le_refl _
    · exact Int.le_of_lt (h2 0 b (by omega) hb)
  | succ a ih =>
    intro ha
    obtain ⟨i1, i2⟩ := ih (by omega)
    obtain ⟨b, hb, e⟩ := hs _ ⟨a + 1, ha, rfl⟩
    have hab : a < b := by
      apply Classical.byContradiction
      intro hn
      have h3 := h a (a + 1) (by omega) ha
      rw [← e] at h3
      by_cases hba : b = a
      · rw [hba] at h3; omega
      · have := h2 b a (by omega) i1
        omega
    refine ⟨by omega, ?_⟩
    rw [← e]
    by_cases hb2 : b = a + 1
    · rw [hb2]
      exact Int.le_refl _
    · exact Int.le_of_lt (h2 (a + 1) b (by omega) hb)
theorem srt_same (h : srt f B n) (h2 : srt g C m) (hs : ∀ v, inrow f B n v ↔ inrow g C m v) : n = m ∧ ∀ a, a < n → f (B + a) = g (C + a) := by
  have l1 := srt_le h h2 fun v => (hs v).mp
  have l2 := srt_le h2 h fun v => (hs v).mpr
  have hnm : n = m := by
    apply Classical.byContradiction
    intro hn
    rcases Nat.lt_or_gt_of_ne hn with h3 | h3
    · have := (l2 n h3).1; omega
    · have := (l1 m h3).1; omega
  refine ⟨hnm, fun a ha => Int64.toInt_inj.mp ?_⟩
  have := (l1 a ha).2
  have := (l2 a (by omega)).2
  omega
/-- few are told apart by few numbers -/
theorem srt_few (h : srt f B n) (w : Int64 → Nat) {K : Nat} (hw : ∀ a, a < n → w (f (B + a)) < K) (hi : ∀ a b, a < n → b < n → w (f (B + a)) = w (f (B + b)) → f (B + a) = f (B + b)) : n ≤ K := by
  have h1 := fs_pig K ((List.range n).map fun a => w (f (B + a))) (by
    refine List.Pairwise.map _ (R := fun a b => a < n ∧ b < n ∧ a ≠ b) (fun a b hab e => ?_) ?_
    · exact hab.2.2 (srt_inj h hab.1 hab.2.1 (hi a b hab.1 hab.2.1 e))
    · refine List.Pairwise.imp_of_mem (R := fun a b => a < b) ?_ List.pairwise_lt_range
      intro a b ha hb hab
      exact ⟨List.mem_range.mp ha, List.mem_range.mp hb, by omega⟩) (fun r hr => by
      obtain ⟨a, ha, rfl⟩ := List.mem_map.mp hr
      exact hw a (List.mem_range.mp ha))
  simpa using h1
end
end
section
/-! The spots of a ship, as a set. -/
noncomputable def sp_u (W H wr : Int32) (s m : Nat) : Int64 := mv_F W H wr (Int32.ofNat s) (fs_dx m) (fs_dy m) 16 0 0
/-- by one shape, moved -/
noncomputable def sp_N (W H wr : Int32) (s : Nat) (u : Int64) : Prop := u ≠ 0 ∧ ∃ m, m < 100 ∧ u = sp_u W H wr s m
/-- by its first K turns -/
noncomputable def sp_M (W H wr : Int32) (s K : Nat) (u : Int64) : Prop := ∃ t, t < K ∧ sp_N W H wr (pm (rt t) s 16) u
noncomputable def sp_k (t : Nat) : Nat := if t = 0 then 1 else if t = 1 then 4 else 8
theorem sp_k8 (t : Nat) : sp_k t ≤ 8 := by
  unfold sp_k
  split
  · omega
  · split <;> omega
section
variable {W H wr : Int32} {s K : Nat}
theorem sp_M0 (u : Int64) : ¬ sp_M W H wr s 0 u := fun ⟨t, ht, _⟩ => by omega
theorem sp_M1 (u : Int64) : sp_M W H wr s (K + 1) u ↔ sp_M W H wr s K u ∨ sp_N W H wr (pm (rt K) s 16) u := by
  constructor
  · rintro ⟨t, ht, h⟩
    by_cases h2 : t = K
    · rw [h2] at h
      exact Or.inr h
    · exact Or.inl ⟨t, by omega, h⟩
  · rintro (⟨t, ht, h⟩ | h)
    · exact ⟨t, by omega, h⟩
    · exact ⟨K, by omega, h⟩
theorem sp_Ms {K' : Nat} (hK : K ≤ K') {u : Int64} (h : sp_M W H wr s K u) : sp_M W H wr s K' u := by
  obtain ⟨t, ht, h⟩ := h
  exact ⟨t, by omega, h⟩
/-- a move of -4 .. 5 has a number -/
theorem sp_no {x y : Int32} (hx : -4 ≤ x.toInt ∧ x.toInt ≤ 5) (hy : -4 ≤ y.toInt ∧ y.toInt ≤ 5) : ∃ m, m < 100 ∧ fs_dx m = x ∧ fs_dy m = y := by
  refine ⟨(y.toInt + 4).toNat * 10 + (x.toInt + 4).toNat, by omega, ?_, ?_⟩
  · refine cx_i32_eq ?_
    rw [(fs_d (by omega)).1]
    omega
  · refine cx_i32_eq ?_
    rw [(fs_d (by omega)).2]
    omega
theorem sp_at {m : Nat} (h : m < 100) : (-4 ≤ (fs_dx m).toInt ∧ (fs_dx m).toInt ≤ 5) ∧ (-4 ≤ (fs_dy m).toInt ∧ (fs_dy m).toInt ≤ 5) := by
  obtain ⟨h1, h2⟩ := fs_d h
  rw [h1, h2]
  omega
/-- moves from -3 on are enough -/
theorem sp_near (hwr : wr = 0 ∨ wr = 1) (hW : 2 ≤ W.toInt ∧ W.toInt ≤ 6) (hH : 2 ≤ H.toInt ∧ H.toInt ≤ 6) {b dx dy : Int32} (h1 : -4 ≤ dx.toInt ∧ dx.toInt ≤ 5) (h2 : -4 ≤ dy.toInt ∧ dy.toInt ≤ 5) (hne : mv_F W H wr b dx dy 16 0 0 ≠ 0) :
    ∃ x y : Int32, mv_F W H wr b x y 16 0 0 = mv_F W H wr b dx dy 16 0 0 ∧ (-3 ≤ x.toInt ∧ x.toInt < W.toInt) ∧ (-3 ≤ y.toInt ∧ y.toInt < H.toInt) := by
  rcases hwr with rfl | rfl
  · refine ⟨dx, dy, rfl, ?_⟩
    have hex : ∃ q : Int32, (0 : Int32).toInt ≤ q.toInt ∧ q.toInt < (0 : Int32).toInt + ((16 : Nat) : Int) ∧ ¬ ev_has b.toInt64 q = 0 := by
      apply Classical.byContradiction
      intro hn
      exact hne (mv_none 16 0 0 (by decide) (by decide) fun q q1 q2 => Classical.byContradiction fun q3 => hn ⟨q, q1, q2, q3⟩)
    obtain ⟨q, q1, q2, q3⟩ := hex
    have e0 : (0 : Int32).toInt = 0 := by decide
    obtain ⟨a1, a2⟩ := mv_flat hW hH h1 h2 16 0 0 (by decide) (by decide) hne q q1 q2 q3
    obtain ⟨b1, b2⟩ := mv_k4_s (k := q) (by omega) (by omega)
    omega
  · have ew : ∀ {w d : Int}, 2 ≤ w ∧ w ≤ 6 → -4 ≤ d ∧ d ≤ 5 → ∃ x : Int32, -3 ≤ x.toInt ∧ x.toInt < w ∧ (x.toInt - d) % w = 0 ∧ x.toInt ≤ 5 := by
      intro w d hw hd
      have hm0 : 0 ≤ (d + 3) % w := Int.emod_nonneg _ (by omega)
      have hm1 : (d + 3) % w < w := Int.emod_lt_of_pos _ (by omega)
      refine ⟨Int32.ofInt ((d + 3) % w - 3), ?_⟩
      rw [Int32.toInt_ofInt_of_le (by omega) (by omega)]
      refine ⟨by omega, by omega, ?_, by omega⟩
      rcases (show w = 2 ∨ w = 3 ∨ w = 4 ∨ w = 5 ∨ w = 6 by omega) with rfl | rfl | rfl | rfl | rfl <;> omega
    obtain ⟨x, x1, x2, x3, x4⟩ := ew hW h1
    obtain ⟨y, y1, y2, y3, y4⟩ := ew hH h2
    exact ⟨x, y, mv_wrap hW hH (by omega) (by omega) h1 h2 x3 y3 16 0 0 (by decide) (by decide), ⟨x1, x2⟩, ⟨y1, y2⟩⟩
/-- rows and columns gone through so far -/
noncomputable def ne_A (W H wr : Int32) (s : Nat) (A : Int64 → Prop) (y x : Int) (u : Int64) : Prop := A u ∨ (u ≠ 0 ∧ ∃ dx dy : Int32, u = mv_F W H wr (Int32.ofNat s) dx dy 16 0 0 ∧ (-3 ≤ dx.toInt ∧ dx.toInt < W.toInt) ∧ -3 ≤ dy.toInt ∧ (dy.toInt < y ∨ (dy.toInt = y ∧ dx.toInt < x)))
theorem ne_A1 {A : Int64 → Prop} {x y : Int32} (hx : -3 ≤ x.toInt ∧ x.toInt < W.toInt) (hy : -3 ≤ y.toInt) (u : Int64) :
    ne_A W H wr s A y.toInt (x.toInt + 1) u ↔ ne_A W H wr s A y.toInt x.toInt u ∨ (u ≠ 0 ∧ u = mv_F W H wr (Int32.ofNat s) x y 16 0 0) := by
  constructor
  · rintro (h | ⟨h1, dx, dy, h2, h3, h4, h5⟩)
    · exact Or.inl (Or.inl h)
    · by_cases h6 : dy.toInt = y.toInt ∧ dx.toInt = x.toInt
      · rw [cx_i32_eq h6.1, cx_i32_eq h6.2] at h2
        exact Or.inr ⟨h1, h2⟩
      · exact Or.inl (Or.inr ⟨h1, dx, dy, h2, h3, h4, by omega⟩)
  · rintro ((h | ⟨h1, dx, dy, h2, h3, h4, h5⟩) | ⟨h1, h2⟩)
    · exact Or.inl h
    · exact Or.inr ⟨h1, dx, dy, h2, h3, h4, by omega⟩
    · exact Or.inr ⟨h1, x, y, h2, hx, hy, by omega⟩
theorem ne_A2 {A : Int64 → Prop} (y : Int) (x : Int) (hx : W.toInt ≤ x) (u : Int64) : ne_A W H wr s A y x u ↔ ne_A W H wr s A (y + 1) (-3) u := by
  constructor
  · rintro (h | ⟨h1, dx, dy, h2, h3, h4, h5⟩)
    · exact Or.inl h
    · exact Or.inr ⟨h1, dx, dy, h2, h3, h4, by omega⟩
  · rintro (h | ⟨h1, dx, dy, h2, h3, h4, h5⟩)
    · exact Or.inl h
    · exact Or.inr ⟨h1, dx, dy, h2, h3, h4, by omega⟩
theorem ne_A0 {A : Int64 → Prop} (u : Int64) : ne_A W H wr s A (-3) (-3) u ↔ A u := by
  constructor
  · rintro (h | ⟨h1, dx, dy, h2, h3, h4, h5⟩)
    · exact h
    · omega
  · exact Or.inl
theorem ne_A9 (hwr : wr = 0 ∨ wr = 1) (hW : 2 ≤ W.toInt ∧ W.toInt ≤ 6) (hH : 2 ≤ H.toInt ∧ H.toInt ≤ 6) {A : Int64 → Prop} {y : Int} (hy : y = H.toInt) (u : Int64) : ne_A W H wr s A y (-3) u ↔ A u ∨ sp_N W H wr s u := by
  constructor
  · rintro (h | ⟨h1, dx, dy, h2, h3, h4, h5⟩)
    · exact Or.inl h
    · obtain ⟨m, hm, e1, e2⟩ := sp_no (x := dx) (y := dy) (by omega) (by omega)
      exact Or.inr ⟨h1, m, hm, by rw [h2]; unfold sp_u; rw [e1, e2]⟩
  · rintro (h | ⟨h1, m, hm, h2⟩)
    · exact Or.inl h
    · obtain ⟨a1, a2⟩ := sp_at hm
      rw [h2] at h1
      obtain ⟨x, y2, e, b1, b2⟩ := sp_near hwr hW hH a1 a2 h1
      rw [← h2] at h1
      exact Or.inr ⟨h1, x, y2, by rw [h2]; exact e.symm, b1, b2.1, by omega⟩
/-! they are few: by the turn and what is left of the move -/
noncomputable def sp_res (W H : Int32) (m : Nat) : Nat := ((m % 10) % W.toInt.toNat) * 6 + (m / 10) % H.toInt.toNat
theorem sp_res_lt (hW : 2 ≤ W.toInt ∧ W.toInt ≤ 6) (hH : 2 ≤ H.toInt ∧ H.toInt ≤ 6) (m : Nat) : sp_res W H m < 36 := by
  unfold sp_res
  have h1 : (m % 10) % W.toInt.toNat < W.toInt.toNat := Nat.mod_lt _ (by omega)
  have h2 : (m / 10) % H.toInt.toNat < H.toInt.toNat := Nat.mod_lt _ (by omega)
  omega
theorem sp_res_eq (hwr : wr = 0 ∨ wr = 1) (hW : 2 ≤ W.toInt ∧ W.toInt ≤ 6) (hH : 2 ≤ H.toInt ∧ H.toInt ≤ 6) {m m' : Nat} (hm : m < 100) (hm' : m' < 100) (h : sp_res W H m = sp_res W H m') (n1 : sp_u W H wr s m ≠ 0) (n2 : sp_u W H wr s m' ≠ 0) : sp_u W H wr s m = sp_u W H wr s m' := by
  unfold sp_res at h
  have h1 : (m / 10) % H.toInt.toNat < H.toInt.toNat := Nat.mod_lt _ (by omega)
  have h2 : (m' / 10) % H.toInt.toNat < H.toInt.toNat := Nat.mod_lt _ (by omega)
  have hx : (m % 10) % W.toInt.toNat = (m' % 10) % W.toInt.toNat := by omega
  have hy : (m / 10) % H.toInt.toNat = (m' / 10) % H.toInt.toNat := by omega
  obtain ⟨d1, d2⟩ := fs_d hm
  obtain ⟨d3, d4⟩ := fs_d hm'
  exact mv_same hwr hW hH (by omega) (by omega) (by omega) (by omega) (by rw [d1, d3]; exact fs_modz hW hx) (by rw [d2, d4]; exact fs_modz hH hy) n1 n2
/-- a spot's number among 36 a turn -/
noncomputable def sp_P (W H wr : Int32) (s : Nat) (u : Int64) (r : Nat) : Prop := ∃ t m, t < 8 ∧ m < 100 ∧ u ≠ 0 ∧ u = sp_u W H wr (pm (rt t) s 16) m ∧ r = 36 * t + sp_res W H m
noncomputable def sp_w (W H wr : Int32) (s : Nat) (u : Int64) : Nat := Classical.epsilon (sp_P W H wr s u)
theorem sp_w_s (h : K ≤ 8) {u : Int64} (hu : sp_M W H wr s K u) : sp_P W H wr s u (sp_w W H wr s u) := by
  obtain ⟨t, ht, h0, m, hm, e⟩ := hu
  exact Classical.epsilon_spec (p := sp_P W H wr s u) ⟨_, t, m, by omega, hm, h0, e, rfl⟩
theorem sp_w_lt (hW : 2 ≤ W.toInt ∧ W.toInt ≤ 6) (hH : 2 ≤ H.toInt ∧ H.toInt ≤ 6) (h : K ≤ 8) {u : Int64} (hu : sp_M W H wr s K u) : sp_w W H wr s u < 288 := by
  obtain ⟨t, m, ht, hm, -, -, e⟩ := sp_w_s h hu
  have := sp_res_lt hW hH m
  omega
theorem sp_w_inj (hwr : wr = 0 ∨ wr = 1) (hW : 2 ≤ W.toInt ∧ W.toInt ≤ 6) (hH : 2 ≤ H.toInt ∧ H.toInt ≤ 6) (h : K ≤ 8) {u v : Int64} (hu : sp_M W H wr s K u) (hv : sp_M W H wr s K v) (e : sp_w W H wr s u = sp_w W H wr s v) : u = v := by
  obtain ⟨t, m, ht, hm, u0, u1, e1⟩ := sp_w_s h hu
  obtain ⟨t', m', ht', hm', v0, v1, e2⟩ := sp_w_s h hv
  have r1 := sp_res_lt hW hH m
  have r2 := sp_res_lt hW hH m'
  obtain rfl : t = t' := by omega
  rw [u1, v1]
  exact sp_res_eq hwr hW hH hm hm' (by omega) (by rw [← u1]; exact u0) (by rw [← v1]; exact v0)
theorem sp_most (hwr : wr = 0 ∨ wr = 1) (hW : 2 ≤ W.toInt ∧ W.toInt ≤ 6) (hH : 2 ≤ H.toInt ∧ H.toInt ≤ 6) (h : K ≤ 8) {f : Nat → Int64} {B n : Nat} (hs : srt f B n) (hM : ∀ u, inrow f B n u → sp_M W H wr s K u) : n ≤ 288 :=
  srt_few hs (sp_w W H wr s) (fun a ha => sp_w_lt hW hH h (hM _ ⟨a, ha, rfl⟩)) fun a b ha hb e => sp_w_inj hwr hW hH h (hM _ ⟨a, ha, rfl⟩) (hM _ ⟨b, hb, rfl⟩) e
/-- one more than they are has no room among them -/
theorem srt_place {f : Nat → Int64} {B n : Nat} {v : Int64} (h : srt f B n) : ∃ k, k ≤ n ∧ (∀ a : Nat, k ≤ a → a < n → v.toInt ≤ (f (B + a)).toInt) ∧ (k = 0 ∨ (f (B + (k - 1))).toInt < v.toInt) := by
  have loop : ∀ k, k ≤ n → (∀ a : Nat, k ≤ a → a < n → v.toInt ≤ (f (B + a)).toInt) → ∃ k, k ≤ n ∧ (∀ a : Nat, k ≤ a → a < n → v.toInt ≤ (f (B + a)).toInt) ∧ (k = 0 ∨ (f (B + (k - 1))).toInt < v.toInt) := by
    intro k
    induction k with
    | zero => exact fun h1 h2 => ⟨0, h1, h2, Or.inl rfl⟩
    | succ k ih =>
      intro h1 h2
      by_cases h3 : (f (B + k)).toInt < v.toInt
      · exact ⟨k + 1, h1, h2, Or.inr h3⟩
      · refine ih (by omega) fun a h4 h5 => ?_
        by_cases h6 : a = k
        · rw [h6]; omega
        · exact h2 a (by omega) h5
  exact loop n (Nat.le_refl n) fun a h1 h2 => by omega
theorem sp_room (hwr : wr = 0 ∨ wr = 1) (hW : 2 ≤ W.toInt ∧ W.toInt ≤ 6) (hH : 2 ≤ H.toInt ∧ H.toInt ≤ 6) (h : K ≤ 8) {f : Nat → Int64} {B n : Nat} {v : Int64} (hs : srt f B n) (hM : ∀ u, inrow f B n u → sp_M W H wr s K u) (hv : sp_M W H wr s K v) (hn : ¬ inrow f B n v) : n < 288 := by
  obtain ⟨k, h1, h2, h3⟩ := srt_place (v := v) hs
  have h4 : ∀ a : Nat, k ≤ a → a < n → v.toInt < (f (B + a)).toInt := fun a ha hb => by
    have h5 := h2 a ha hb
    have h6 : ¬ (f (B + a)).toInt = v.toInt := fun e => hn ⟨a, hb, Int64.toInt_inj.mp e⟩
    omega
  have := sp_most hwr hW hH h (srt_ins hs h1 h4 h3) fun u hu => by
    rcases (in_ins h1 u).mp hu with h7 | rfl
    · exact hM u h7
    · exact hv
  omega
end
end
section
/-! The class notes a set in a row that rises. -/
section
variable {N : Nat} {X : ez_X} {I : Nat → Nat → Int32} {J : Nat → Nat → Int64} {R : Nat → Nat} {T : List ez_C} {Q : pw_Q} {cz kz : Nat}
set_option maxRecDepth 100000 in
theorem nt_r0 {a0 : Int32} {a1 : Int64} : ∀ G : ez_F, fx_up X 8 G 91 0 [.ref 3, .int a0, .long a1, ez_fill] [] (ev_hp I J R T) cz kz = ev_C G 3 [.ref 5, .int a0] (ev_hp I J R T) fun r h1 c1 k1 => G 91 15 [.ref 3, .int a0, .long a1, ez_fill, .int ((288 : Int32) * a0)] (r.toList ++ []) h1 (cz + c1) (kz + k1) := by
  intro G
  rfl
set_option maxRecDepth 100000 in
theorem nt_r1 {a0 : Int32} {a1 : Int64} {a2 : Int32} {a3 : Int32} : ∀ G : ez_F, fx_up X 3 G 91 15 [.ref 3, .int a0, .long a1, ez_fill, .int a2] [.int a3] (ev_hp I J R T) cz kz = G 91 21 [.ref 3, .int a0, .long a1, ez_fill, .int a2, .int a3, .int a3] [] (ev_hp I J R T) cz kz := by
  intro G
  rfl
theorem nt_0 {s : Int32} { v : Int64}
    (H : pw N X 91 21 [.ref 3, .int s, .long v, ez_fill, .int ((288 : Int32) * s), .int (ev_at 3 (I 5) s), .int (ev_at 3 (I 5) s)] [] (ev_hp I J R T) Q) : pw (N + 1) X 91 0 [.ref 3, .int s, .long v, ez_fill] [] (ev_hp I J R T) Q := by
  refine pw_callp (by decide) (fun _ _ => nt_r0) (pe_at (show cx_Ds[5]? = some (0, 3, []) from rfl) (by decide)) ?_
  refine pw_p (pw_seg (by decide) (fun _ _ => nt_r1) ?_)
  exact H
set_option maxRecDepth 100000 in
theorem nt_r2 {a0 : Int32} {a1 : Int64} {a2 : Int32} {a3 : Int32} {a4 : Int32} : ∀ G : ez_F, fx_up X 2 G 91 21 [.ref 3, .int a0, .long a1, ez_fill, .int a2, .int a3, .int a4] [] (ev_hp I J R T) cz kz = bif decide (a4 ≤ (0 : Int32)) then G 91 51 [.ref 3, .int a0, .long a1, ez_fill, .int a2, .int a3, .int a4] [] (ev_hp I J R T) cz kz else G 91 26 [.ref 3, .int a0, .long a1, ez_fill, .int a2, .int a3, .int a4] [] (ev_hp I J R T) cz kz := by
  intro G
  rfl
set_option maxRecDepth 100000 in
theorem nt_r3 {a0 : Int32} {a1 : Int64} {a2 : Int32} {a3 : Int32} {a4 : Int32} : ∀ G : ez_F, fx_up X 8 G 91 26 [.ref 3, .int a0, .long a1, ez_fill, .int a2, .int a3, .int a4] [] (ev_hp I J R T) cz kz = ev_C G 4 [.ref 4, .int ((a2 + a4) - (1 : Int32))] (ev_hp I J R T) fun r h1 c1 k1 => G 91 40 [.ref 3, .int a0, .long a1, ez_fill, .int a2, .int a3, .int a4] (r.toList ++ []) h1 (cz + c1) (kz + k1) := by
  intro G
  rfl
set_option maxRecDepth 100000 in
theorem nt_r4 {a0 : Int32} {a1 : Int64} {a2 : Int32} {a3 : Int32} {a4 : Int32} {a5 : Int64} : ∀ G : ez_F, fx_up X 3 G 91 40 [.ref 3, .int a0, .long a1, ez_fill, .int a2, .int a3, .int a4] [.long a5] (ev_hp I J R T) cz kz = bif decide ((lg_cmp a5 a1) < (0 : Int32)) then G 91 51 [.ref 3, .int a0, .long a1, ez_fill, .int a2, .int a3, .int a4] [] (ev_hp I J R T) cz kz else G 91 45 [.ref 3, .int a0, .long a1, ez_fill, .int a2, .int a3, .int a4] [] (ev_hp I J R T) cz kz := by
  intro G
  rfl
set_option maxRecDepth 100000 in
theorem nt_r5 {a0 : Int32} {a1 : Int64} {a2 : Int32} {a3 : Int32} {a4 : Int32} : ∀ G : ez_F, fx_up X 2 G 91 45 [.ref 3, .int a0, .long a1, ez_fill, .int a2, .int a3, .int a4] [] (ev_hp I J R T) cz kz = G 91 21 [.ref 3, .int a0, .long a1, ez_fill, .int a2, .int a3, .int (a4 + (-1 : Int32))] [] (ev_hp I J R T) cz kz := by
  intro G
  rfl
theorem nt_21 {s st he pl : Int32} { v : Int64}
    (H : ((pl ≤ (0 : Int32) → pw N X 91 51 [.ref 3, .int s, .long v, ez_fill, .int st, .int he, .int pl] [] (ev_hp I J R T) Q) ∧ (¬ (pl ≤ (0 : Int32)) → (((lg_cmp (ev_atJ 864 (J 4) ((st + pl) - (1 : Int32))) v) < (0 : Int32) → pw N X 91 51 [.ref 3, .int s, .long v, ez_fill, .int st, .int he, .int pl] [] (ev_hp I J R T) Q) ∧ (¬ ((lg_cmp (ev_atJ 864 (J 4) ((st + pl) - (1 : Int32))) v) < (0 : Int32)) → pw N X 91 21 [.ref 3, .int s, .long v, ez_fill, .int st, .int he, .int (pl + (-1 : Int32))] [] (ev_hp I J R T) Q))))) : pw (N + 1) X 91 21 [.ref 3, .int s, .long v, ez_fill, .int st, .int he, .int pl] [] (ev_hp I J R T) Q := by
  refine pw_if (by decide) (fun _ _ => nt_r2) (fun w1 => ?_) (fun w1 => ?_)
  · have h1 := H.1 w1
    exact h1
  · have h1 := H.2 w1
    refine pw_p (pw_callp (by decide) (fun _ _ => nt_r3) (pe_atJ (show cx_Ds[4]? = some (1, 864, []) from rfl) (by decide)) ?_)
    refine pw_p (pw_if (by decide) (fun _ _ => nt_r4) (fun w2 => ?_) (fun w2 => ?_))
    · have h2 := h1.1 w2
      exact h2
    · have h2 := h1.2 w2
      refine pw_p (pw_seg (by decide) (fun _ _ => nt_r5) ?_)
      exact h2
set_option maxRecDepth 100000 in
theorem nt_r6 {a0 : Int32} {a1 : Int64} {a2 : Int32} {a3 : Int32} {a4 : Int32} : ∀ G : ez_F, fx_up X 3 G 91 51 [.ref 3, .int a0, .long a1, ez_fill, .int a2, .int a3, .int a4] [] (ev_hp I J R T) cz kz = bif decide (a3 ≤ a4) then G 91 79 [.ref 3, .int a0, .long a1, ez_fill, .int a2, .int a3, .int a4] [] (ev_hp I J R T) cz kz else G 91 58 [.ref 3, .int a0, .long a1, ez_fill, .int a2, .int a3, .int a4] [] (ev_hp I J R T) cz kz := by
  intro G
  rfl
set_option maxRecDepth 100000 in
theorem nt_r7 {a0 : Int32} {a1 : Int64} {a2 : Int32} {a3 : Int32} {a4 : Int32} : ∀ G : ez_F, fx_up X 2 G 91 79 [.ref 3, .int a0, .long a1, ez_fill, .int a2, .int a3, .int a4] [] (ev_hp I J R T) cz kz = G 91 82 [.ref 3, .int a0, .long a1, ez_fill, .int a2, .int a3, .int a4, .int (0 : Int32)] [] (ev_hp I J R T) cz kz := by
  intro G
  rfl
set_option maxRecDepth 100000 in
theorem nt_r8 {a0 : Int32} {a1 : Int64} {a2 : Int32} {a3 : Int32} {a4 : Int32} : ∀ G : ez_F, fx_up X 6 G 91 58 [.ref 3, .int a0, .long a1, ez_fill, .int a2, .int a3, .int a4] [] (ev_hp I J R T) cz kz = ev_C G 4 [.ref 4, .int (a2 + a4)] (ev_hp I J R T) fun r h1 c1 k1 => G 91 70 [.ref 3, .int a0, .long a1, ez_fill, .int a2, .int a3, .int a4] (r.toList ++ []) h1 (cz + c1) (kz + k1) := by
  intro G
  rfl
set_option maxRecDepth 100000 in
theorem nt_r9 {a0 : Int32} {a1 : Int64} {a2 : Int32} {a3 : Int32} {a4 : Int32} {a5 : Int64} : ∀ G : ez_F, fx_up X 3 G 91 70 [.ref 3, .int a0, .long a1, ez_fill, .int a2, .int a3, .int a4] [.long a5] (ev_hp I J R T) cz kz = bif decide (¬ (lg_cmp a5 a1) = (0 : Int32)) then G 91 79 [.ref 3, .int a0, .long a1, ez_fill, .int a2, .int a3, .int a4] [] (ev_hp I J R T) cz kz else G 91 75 [.ref 3, .int a0, .long a1, ez_fill, .int a2, .int a3, .int a4] [] (ev_hp I J R T) cz kz := by
  intro G
  rfl
set_option maxRecDepth 100000 in
theorem nt_r10 {a0 : Int32} {a1 : Int64} {a2 : Int32} {a3 : Int32} {a4 : Int32} : ∀ G : ez_F, fx_up X 3 G 91 75 [.ref 3, .int a0, .long a1, ez_fill, .int a2, .int a3, .int a4] [] (ev_hp I J R T) cz kz = G 91 82 [.ref 3, .int a0, .long a1, ez_fill, .int a2, .int a3, .int a4, .int (1 : Int32)] [] (ev_hp I J R T) cz kz := by
  intro G
  rfl
theorem nt_51 {s st he pl : Int32} { v : Int64}
    (H : ((he ≤ pl → pw N X 91 82 [.ref 3, .int s, .long v, ez_fill, .int st, .int he, .int pl, .int (0 : Int32)] [] (ev_hp I J R T) Q) ∧ (¬ (he ≤ pl) → ((¬ (lg_cmp (ev_atJ 864 (J 4) (st + pl)) v) = (0 : Int32) → pw N X 91 82 [.ref 3, .int s, .long v, ez_fill, .int st, .int he, .int pl, .int (0 : Int32)] [] (ev_hp I J R T) Q) ∧ (¬ (¬ (lg_cmp (ev_atJ 864 (J 4) (st + pl)) v) = (0 : Int32)) → pw N X 91 82 [.ref 3, .int s, .long v, ez_fill, .int st, .int he, .int pl, .int (1 : Int32)] [] (ev_hp I J R T) Q))))) : pw (N + 1) X 91 51 [.ref 3, .int s, .long v, ez_fill, .int st, .int he, .int pl] [] (ev_hp I J R T) Q := by
  refine pw_if (by decide) (fun _ _ => nt_r6) (fun w1 => ?_) (fun w1 => ?_)
  · have h1 := H.1 w1
    refine pw_p (pw_seg (by decide) (fun _ _ => nt_r7) ?_)
    exact h1
  · have h1 := H.2 w1
    refine pw_p (pw_callp (by decide) (fun _ _ => nt_r8) (pe_atJ (show cx_Ds[4]? = some (1, 864, []) from rfl) (by decide)) ?_)
    refine pw_p (pw_if (by decide) (fun _ _ => nt_r9) (fun w2 => ?_) (fun w2 => ?_))
    · have h2 := h1.1 w2
      refine pw_p (pw_seg (by decide) (fun _ _ => nt_r7) ?_)
      exact h2
    · have h2 := h1.2 w2
      refine pw_p (pw_seg (by decide) (fun _ _ => nt_r10) ?_)
      exact h2
set_option maxRecDepth 100000 in
theorem nt_r11 {a0 : Int32} {a1 : Int64} {a2 : Int32} {a3 : Int32} {a4 : Int32} {a5 : Int32} : ∀ G : ez_F, fx_up X 2 G 91 82 [.ref 3, .int a0, .long a1, ez_fill, .int a2, .int a3, .int a4, .int a5] [] (ev_hp I J R T) cz kz = bif decide (¬ a5 = (0 : Int32)) then G 91 95 [.ref 3, .int a0, .long a1, ez_fill, .int a2, .int a3, .int a4, .int a5] [] (ev_hp I J R T) cz kz else G 91 87 [.ref 3, .int a0, .long a1, ez_fill, .int a2, .int a3, .int a4, .int a5] [] (ev_hp I J R T) cz kz := by
  intro G
  rfl
set_option maxRecDepth 100000 in
theorem nt_r12 {a0 : Int32} {a1 : Int64} {a2 : Int32} {a3 : Int32} {a4 : Int32} {a5 : Int32} : ∀ G : ez_F, fx_up X 1 G 91 95 [.ref 3, .int a0, .long a1, ez_fill, .int a2, .int a3, .int a4, .int a5] [] (ev_hp I J R T) cz kz = some (none, (ev_hp I J R T), cz, kz) := by
  intro G
  rfl
set_option maxRecDepth 100000 in
theorem nt_r13 {a0 : Int32} {a1 : Int64} {a2 : Int32} {a3 : Int32} {a4 : Int32} {a5 : Int32} : ∀ G : ez_F, fx_up X 3 G 91 87 [.ref 3, .int a0, .long a1, ez_fill, .int a2, .int a3, .int a4, .int a5] [] (ev_hp I J R T) cz kz = bif decide (a3 < (288 : Int32)) then G 91 96 [.ref 3, .int a0, .long a1, ez_fill, .int a2, .int a3, .int a4, .int a5] [] (ev_hp I J R T) cz kz else G 91 95 [.ref 3, .int a0, .long a1, ez_fill, .int a2, .int a3, .int a4, .int a5] [] (ev_hp I J R T) cz kz := by
  intro G
  rfl
set_option maxRecDepth 100000 in
theorem nt_r14 {a0 : Int32} {a1 : Int64} {a2 : Int32} {a3 : Int32} {a4 : Int32} {a5 : Int32} : ∀ G : ez_F, fx_up X 2 G 91 96 [.ref 3, .int a0, .long a1, ez_fill, .int a2, .int a3, .int a4, .int a5] [] (ev_hp I J R T) cz kz = G 91 100 [.ref 3, .int a0, .long a1, ez_fill, .int a2, .int a3, .int a4, .int a5, .int a3] [] (ev_hp I J R T) cz kz := by
  intro G
  rfl
theorem nt_82 {s st he pl kn : Int32} { v : Int64}
    (H : ((¬ kn = (0 : Int32) → Q none (ev_hp I J R T)) ∧ (¬ (¬ kn = (0 : Int32)) → ((he < (288 : Int32) → pw N X 91 100 [.ref 3, .int s, .long v, ez_fill, .int st, .int he, .int pl, .int kn, .int he] [] (ev_hp I J R T) Q) ∧ (¬ (he < (288 : Int32)) → Q none (ev_hp I J R T)))))) : pw (N + 1) X 91 82 [.ref 3, .int s, .long v, ez_fill, .int st, .int he, .int pl, .int kn] [] (ev_hp I J R T) Q := by
  refine pw_if (by decide) (fun _ _ => nt_r11) (fun w1 => ?_) (fun w1 => ?_)
  · have h1 := H.1 w1
    exact pw_p (pw_ret (by decide) (fun _ _ => nt_r12) h1)
  · have h1 := H.2 w1
    refine pw_p (pw_if (by decide) (fun _ _ => nt_r13) (fun w2 => ?_) (fun w2 => ?_))
    · have h2 := h1.1 w2
      refine pw_p (pw_seg (by decide) (fun _ _ => nt_r14) ?_)
      exact h2
    · have h2 := h1.2 w2
      exact pw_p (pw_ret (by decide) (fun _ _ => nt_r12) h2)
set_option maxRecDepth 100000 in
theorem nt_r15 {a0 : Int32} {a1 : Int64} {a2 : Int32} {a3 : Int32} {a4 : Int32} {a5 : Int32} {a6 : Int32} : ∀ G : ez_F, fx_up X 3 G 91 100 [.ref 3, .int a0, .long a1, ez_fill, .int a2, .int a3, .int a4, .int a5, .int a6] [] (ev_hp I J R T) cz kz = bif decide (a6 ≤ a4) then G 91 139 [.ref 3, .int a0, .long a1, ez_fill, .int a2, .int a3, .int a4, .int a5, .int a6] [] (ev_hp I J R T) cz kz else G 91 107 [.ref 3, .int a0, .long a1, ez_fill, .int a2, .int a3, .int a4, .int a5, .int a6] [] (ev_hp I J R T) cz kz := by
  intro G
  rfl
set_option maxRecDepth 100000 in
theorem nt_r16 {a0 : Int32} {a1 : Int64} {a2 : Int32} {a3 : Int32} {a4 : Int32} {a5 : Int32} {a6 : Int32} : ∀ G : ez_F, fx_up X 7 G 91 139 [.ref 3, .int a0, .long a1, ez_fill, .int a2, .int a3, .int a4, .int a5, .int a6] [] (ev_hp I J R T) cz kz = ev_C G 39 [.ref 4, .int (a2 + a4), .long a1] (ev_hp I J R T) fun r h1 c1 k1 => G 91 152 [.ref 3, .int a0, .long a1, ez_fill, .int a2, .int a3, .int a4, .int a5, .int a6] (r.toList ++ []) h1 (cz + c1) (kz + k1) := by
  intro G
  rfl
set_option maxRecDepth 100000 in
theorem nt_r17 {a0 : Int32} {a1 : Int64} {a2 : Int32} {a3 : Int32} {a4 : Int32} {a5 : Int32} {a6 : Int32} : ∀ G : ez_F, fx_up X 7 G 91 152 [.ref 3, .int a0, .long a1, ez_fill, .int a2, .int a3, .int a4, .int a5, .int a6] [] (ev_hp I J R T) cz kz = ev_C G 38 [.ref 5, .int a0, .int (a3 + (1 : Int32))] (ev_hp I J R T) fun r h1 c1 k1 => G 91 164 [.ref 3, .int a0, .long a1, ez_fill, .int a2, .int a3, .int a4, .int a5, .int a6] (r.toList ++ []) h1 (cz + c1) (kz + k1) := by
  intro G
  rfl
set_option maxRecDepth 100000 in
theorem nt_r18 {a0 : Int32} {a1 : Int64} {a2 : Int32} {a3 : Int32} {a4 : Int32} {a5 : Int32} {a6 : Int32} : ∀ G : ez_F, fx_up X 1 G 91 164 [.ref 3, .int a0, .long a1, ez_fill, .int a2, .int a3, .int a4, .int a5, .int a6] [] (ev_hp I J R T) cz kz = some (none, (ev_hp I J R T), cz, kz) := by
  intro G
  rfl
set_option maxRecDepth 100000 in
theorem nt_r19 {a0 : Int32} {a1 : Int64} {a2 : Int32} {a3 : Int32} {a4 : Int32} {a5 : Int32} {a6 : Int32} : ∀ G : ez_F, fx_up X 12 G 91 107 [.ref 3, .int a0, .long a1, ez_fill, .int a2, .int a3, .int a4, .int a5, .int a6] [] (ev_hp I J R T) cz kz = G 91 127 [.ref 3, .int a0, .long a1, ez_fill, .int a2, .int a3, .int a4, .int a5, .int a6] [.int ((a2 + a6) - (1 : Int32)), .ref 4, .int (a2 + a6), .ref 4] (ev_hp I J R T) cz kz := by
  intro G
  rfl
set_option maxRecDepth 100000 in
theorem nt_r20 {a0 : Int32} {a1 : Int64} {a2 : Int32} {a3 : Int32} {a4 : Int32} {a5 : Int32} {a6 : Int32} {a7 : Int32} {a8 : Int32} : ∀ G : ez_F, fx_up X 1 G 91 127 [.ref 3, .int a0, .long a1, ez_fill, .int a2, .int a3, .int a4, .int a5, .int a6] [.int a7, .ref 4, .int a8, .ref 4] (ev_hp I J R T) cz kz = ev_C G 4 [.ref 4, .int a7] (ev_hp I J R T) fun r h1 c1 k1 => G 91 130 [.ref 3, .int a0, .long a1, ez_fill, .int a2, .int a3, .int a4, .int a5, .int a6] (r.toList ++ [.int a8, .ref 4]) h1 (cz + c1) (kz + k1) := by
  intro G
  rfl
set_option maxRecDepth 100000 in
theorem nt_r21 {a0 : Int32} {a1 : Int64} {a2 : Int32} {a3 : Int32} {a4 : Int32} {a5 : Int32} {a6 : Int32} {a7 : Int64} {a8 : Int32} : ∀ G : ez_F, fx_up X 1 G 91 130 [.ref 3, .int a0, .long a1, ez_fill, .int a2, .int a3, .int a4, .int a5, .int a6] [.long a7, .int a8, .ref 4] (ev_hp I J R T) cz kz = ev_C G 39 [.ref 4, .int a8, .long a7] (ev_hp I J R T) fun r h1 c1 k1 => G 91 133 [.ref 3, .int a0, .long a1, ez_fill, .int a2, .int a3, .int a4, .int a5, .int a6] (r.toList ++ []) h1 (cz + c1) (kz + k1) := by
  intro G
  rfl
set_option maxRecDepth 100000 in
theorem nt_r22 {a0 : Int32} {a1 : Int64} {a2 : Int32} {a3 : Int32} {a4 : Int32} {a5 : Int32} {a6 : Int32} : ∀ G : ez_F, fx_up X 2 G 91 133 [.ref 3, .int a0, .long a1, ez_fill, .int a2, .int a3, .int a4, .int a5, .int a6] [] (ev_hp I J R T) cz kz = G 91 100 [.ref 3, .int a0, .long a1, ez_fill, .int a2, .int a3, .int a4, .int a5, .int (a6 + (-1 : Int32))] [] (ev_hp I J R T) cz kz := by
  intro G
  rfl
theorem nt_100 {s st he pl kn i : Int32} { v : Int64}
    (H : ((i ≤ pl → Q none (ev_hp (ev_sI I 5 (ev_put 3 (I 5) s (he + (1 : Int32)))) (ev_sJ J 4 (ev_putJ 864 (J 4) (st + pl) v)) R T)) ∧ (¬ (i ≤ pl) → pw N X 91 100 [.ref 3, .int s, .long v, ez_fill, .int st, .int he, .int pl, .int kn, .int (i + (-1 : Int32))] [] (ev_hp I (ev_sJ J 4 (ev_putJ 864 (J 4) (st + i) (ev_atJ 864 (J 4) ((st + i) - (1 : Int32))))) R T) Q))) : pw (N + 1) X 91 100 [.ref 3, .int s, .long v, ez_fill, .int st, .int he, .int pl, .int kn, .int i] [] (ev_hp I J R T) Q := by
  refine pw_if (by decide) (fun _ _ => nt_r15) (fun w1 => ?_) (fun w1 => ?_)
  · have h1 := H.1 w1
    refine pw_p (pw_callp (by decide) (fun _ _ => nt_r16) (pe_putJ (show cx_Ds[4]? = some (1, 864, []) from rfl) (by decide)) ?_)
    refine pw_p (pw_callp (by decide) (fun _ _ => nt_r17) (pe_put (show cx_Ds[5]? = some (0, 3, []) from rfl) (by decide)) ?_)
    exact pw_p (pw_ret (by decide) (fun _ _ => nt_r18) h1)
  · have h1 := H.2 w1
    refine pw_p (pw_seg (by decide) (fun _ _ => nt_r19) ?_)
    refine pw_p (pw_callp (by decide) (fun _ _ => nt_r20) (pe_atJ (show cx_Ds[4]? = some (1, 864, []) from rfl) (by decide)) ?_)
    refine pw_p (pw_callp (by decide) (fun _ _ => nt_r21) (pe_putJ (show cx_Ds[4]? = some (1, 864, []) from rfl) (by decide)) ?_)
    refine pw_p (pw_seg (by decide) (fun _ _ => nt_r22) ?_)
    exact h1
end
section
variable {N : Nat} {X : ez_X} {I : Nat → Nat → Int32} {J : Nat → Nat → Int64} {R : Nat → Nat} {T : List ez_C} {v : Int64}
theorem i_288 {s : Nat} : (288 : Int32) * Int32.ofNat s = Int32.ofNat (288 * s) := io_mul 288 s
theorem io_dec {k : Nat} (h : 0 < k) : Int32.ofNat k + (-1 : Int32) = Int32.ofNat (k - 1) := by
  have e : Int32.ofNat k = Int32.ofNat (k - 1) + 1 := by
    rw [show (1 : Int32) = Int32.ofNat 1 from rfl, io_add]
    congr 1
    omega
  rw [e, Int32.add_assoc, show (1 : Int32) + (-1 : Int32) = 0 from by decide, Int32.add_zero]
theorem io_1 (k : Nat) : Int32.ofNat k + (1 : Int32) = Int32.ofNat (k + 1) := io_add k 1
theorem io_le0 {k : Nat} (h : k < 2147483648) : Int32.ofNat k ≤ (0 : Int32) ↔ k = 0 := by
  rw [show (0 : Int32) = Int32.ofNat 0 from rfl, io_le h (by omega)]
  omega
/-- the row behind a set that is noted -/
noncomputable def nt_row (f : Nat → Int64) (s n : Nat) (v : Int64) (f' : Nat → Int64) (n' : Nat) : Prop := srt f' (288 * s) n' ∧ n' ≤ 288 ∧ (∀ w, inrow f' (288 * s) n' w ↔ inrow f (288 * s) n w ∨ w = v) ∧ ∀ q, q < 288 * s ∨ 288 * s + 288 ≤ q → f' q = f q
noncomputable def nt_Q (I : Nat → Nat → Int32) (J : Nat → Nat → Int64) (R : Nat → Nat) (T : List ez_C) (s n : Nat) (v : Int64) : pw_Q := fun r h => r = none ∧ ∃ f' n', h = ev_hp (ev_sI I 5 (upd (I 5) s (Int32.ofNat n'))) (ev_sJ J 4 f') R T ∧ nt_row (J 4) s n v f' n'
theorem nt_shift {s n k : Nat} {kn : Int32} {f : Nat → Int64} (hs : s < 3) (hk : k ≤ n) (hn : n < 288) (hf : J 4 = f) (hI : I 5 s = Int32.ofNat n) (hsr : srt f (288 * s) n) (hi : ∀ a : Nat, k ≤ a → a < n → v.toInt < (f (288 * s + a)).toInt) (lo : k = 0 ∨ (f (288 * s + (k - 1))).toInt < v.toInt) :
    ∀ (N i : Nat), k ≤ i → i ≤ n → pw N X 91 100 [.ref 3, .int (Int32.ofNat s), .long v, ez_fill, .int (Int32.ofNat (288 * s)), .int (Int32.ofNat n), .int (Int32.ofNat k), .int kn, .int (Int32.ofNat i)] [] (ev_hp I (ev_sJ J 4 (rw_sh f (288 * s) i n)) R T) (nt_Q I J R T s n v) := by
  intro N
  induction N with
  | zero => exact fun i _ _ => pw_0
  | succ N ih =>
    intro i h1 h2
    refine nt_100 ⟨fun w => ?_, fun w => ?_⟩
    · rw [io_le (by omega) (by omega)] at w
      obtain rfl : i = k := by omega
      rw [io_add, cx_sJ_s, putJ_in (by omega) (by omega), put_in hs (by omega), io_1, fs_sJ2]
      exact ⟨rfl, _, _, rfl, srt_ins hsr hk hi lo, by omega, fun w => by rw [hf]; exact in_ins hk w, fun q hq => by rw [hf]; exact rw_ins_out f v hk (by omega)⟩
    · rw [io_le (by omega) (by omega)] at w
      rw [io_dec (by omega), io_add, show (1 : Int32) = Int32.ofNat 1 from rfl, io_sub (by omega), cx_sJ_s, putJ_in (by omega) (by omega), atJ_in (by omega) (by omega), rw_sh_1 f (288 * s) i n (by omega) h2, fs_sJ2]
      exact ih (i - 1) (by omega) (by omega)
theorem pe_note {s n : Nat} (hs : s < 3) (hI : I 5 s = Int32.ofNat n) (hn : n ≤ 288) (hsr : srt (J 4) (288 * s) n) (hb : ¬ inrow (J 4) (288 * s) n v → n < 288) : pe N X 91 [.ref 3, .int (Int32.ofNat s), .long v] (ev_hp I J R T) (nt_Q I J R T s n v) := by
  -- from the place on
  have rest : ∀ (N k : Nat), k ≤ n → (∀ a : Nat, k ≤ a → a < n → v.toInt ≤ (J 4 (288 * s + a)).toInt) → (k = 0 ∨ (J 4 (288 * s + (k - 1))).toInt < v.toInt) →
      pw N X 91 51 [.ref 3, .int (Int32.ofNat s), .long v, ez_fill, .int (Int32.ofNat (288 * s)), .int (Int32.ofNat n), .int (Int32.ofNat k)] [] (ev_hp I J R T) (nt_Q I J R T s n v) := by
    intro N k hk hi lo
    have new : ¬ inrow (J 4) (288 * s) n v → pw N X 91 82 [.ref 3, .int (Int32.ofNat s), .long v, ez_fill, .int (Int32.ofNat (288 * s)), .int (Int32.ofNat n), .int (Int32.ofNat k), .int (0 : Int32)] [] (ev_hp I J R T) (nt_Q I J R T s n v) := by
      intro hin
      have hn2 := hb hin
      refine pw_p (nt_82 ⟨fun w => absurd rfl w, fun _ => ⟨fun _ => ?_, fun w => ?_⟩⟩)
      · have h := nt_shift (X := X) (I := I) (J := J) (R := R) (T := T) (v := v) (kn := 0) hs hk hn2 rfl hI hsr (fun a h1 h2 => ?_) lo N n hk (Nat.le_refl n)
        · rw [rw_sh_0, fs_sJ_self] at h
          exact h
        · have h3 := hi a h1 h2
          have h4 : ¬ (J 4 (288 * s + a)).toInt = v.toInt := fun e => hin ⟨a, h2, Int64.toInt_inj.mp e⟩
          omega
      · rw [show (288 : Int32) = Int32.ofNat 288 from rfl, io_lt (by omega) (by omega)] at w
        omega
    refine pw_p (nt_51 ⟨fun w => ?_, fun w => ⟨fun w2 => ?_, fun w2 => ?_⟩⟩)
    · rw [io_le (by omega) (by omega)] at w
      refine new ?_
      rintro ⟨a, ha, e⟩
      have := srt_below hsr hk lo a (by omega)
      rw [e] at this
      omega
    · rw [io_le (by omega) (by omega)] at w
      rw [lg_eq, io_add, atJ_in (by omega) (by omega)] at w2
      refine new ?_
      rintro ⟨a, ha, e⟩
      by_cases h1 : a < k
      · have := srt_below hsr hk lo a h1
        rw [e] at this
        omega
      · have h2 := hi k (Nat.le_refl k) (by omega)
        by_cases h3 : a = k
        · rw [h3] at e
          exact w2 e
        · have h4 := hsr k a (by omega) ha
          rw [e] at h4
          omega
    · rw [io_le (by omega) (by omega)] at w
      have w3 := Classical.not_not.mp w2
      rw [lg_eq, io_add, atJ_in (by omega) (by omega)] at w3
      refine pw_p (nt_82 ⟨fun _ => ?_, fun w => absurd (by decide) w⟩)
      refine ⟨rfl, J 4, n, by rw [fs_sJ_self, ← hI, upd_self, sI_self], hsr, hn, fun w => ⟨Or.inl, ?_⟩, fun _ _ => rfl⟩
      rintro (h | rfl)
      · exact h
      · exact ⟨k, by omega, w3⟩
  -- to the place
  have loop : ∀ (N k : Nat), k ≤ n → (∀ a : Nat, k ≤ a → a < n → v.toInt ≤ (J 4 (288 * s + a)).toInt) →
      pw N X 91 21 [.ref 3, .int (Int32.ofNat s), .long v, ez_fill, .int (Int32.ofNat (288 * s)), .int (Int32.ofNat n), .int (Int32.ofNat k)] [] (ev_hp I J R T) (nt_Q I J R T s n v) := by
    intro N
    induction N with
    | zero => exact fun i _ _ => pw_0
    | succ N ih =>
      intro k hk hi
      refine nt_21 ⟨fun w => ?_, fun w => ⟨fun w2 => ?_, fun w2 => ?_⟩⟩
      · rw [io_le0 (by omega)] at w
        exact rest N k hk hi (Or.inl w)
      · rw [io_le0 (by omega)] at w
        rw [lg_lt, io_add, show (1 : Int32) = Int32.ofNat 1 from rfl, io_sub (by omega), atJ_in (by omega) (by omega)] at w2
        exact rest N k hk hi (Or.inr (by rw [show 288 * s + (k - 1) = 288 * s + k - 1 by omega]; exact w2))
      · rw [io_le0 (by omega)] at w
        rw [lg_lt, io_add, show (1 : Int32) = Int32.ofNat 1 from rfl, io_sub (by omega), atJ_in (by omega) (by omega)] at w2
        rw [io_dec (by omega)]
        refine ih (k - 1) (by omega) fun a h1 h2 => ?_
        by_cases h3 : a = k - 1
        · rw [h3, show 288 * s + (k - 1) = 288 * s + k - 1 by omega]
          omega
        · exact hi a (by omega) h2
  refine pe_of (pw_p (nt_0 ?_))
  rw [i_288, at_in hs (by omega), hI]
  exact loop N n (Nat.le_refl n) fun a h1 h2 => by omega
end
end
section
/-! The class builds a ship: all its spots, in order. -/
section
variable {N : Nat} {X : ez_X} {I : Nat → Nat → Int32} {J : Nat → Nat → Int64} {R : Nat → Nat} {T : List ez_C} {Q : pw_Q} {cz kz : Nat}
set_option maxRecDepth 100000 in
theorem ne_r0 {a0 : Int32} {a1 : Int32} : ∀ G : ez_F, fx_up X 2 G 92 0 [.ref 3, .int a0, .int a1] [] (ev_hp I J R T) cz kz = G 92 3 [.ref 3, .int a0, .int a1, .int (-3 : Int32)] [] (ev_hp I J R T) cz kz := by
  intro G
  rfl
theorem ne_0 {s p : Nat}
    (H : pw N X 92 3 [.ref 3, .int (Int32.ofNat s), .int (Int32.ofNat p), .int (-3 : Int32)] [] (ev_hp I J R T) Q) : pw (N + 1) X 92 0 [.ref 3, .int (Int32.ofNat s), .int (Int32.ofNat p)] [] (ev_hp I J R T) Q := by
  refine pw_seg (by decide) (fun _ _ => ne_r0) ?_
  exact H
set_option maxRecDepth 100000 in
theorem ne_r1 {a0 : Int32} {a1 : Int32} {a2 : Int32} : ∀ G : ez_F, fx_up X 4 G 92 3 [.ref 3, .int a0, .int a1, .int a2] [] (ev_hp I J R T) cz kz = G 92 11 [.ref 3, .int a0, .int a1, .int a2] [.int (I 1 4), .int a2] (ev_hp I J R T) cz kz := by
  intro G
  rfl
set_option maxRecDepth 100000 in
theorem ne_r2 {a0 : Int32} {a1 : Int32} {a2 : Int32} {a3 : Int32} {a4 : Int32} : ∀ G : ez_F, fx_up X 1 G 92 11 [.ref 3, .int a0, .int a1, .int a2] [.int a3, .int a4] (ev_hp I J R T) cz kz = bif decide (a3 ≤ a4) then G 92 69 [.ref 3, .int a0, .int a1, .int a2] [] (ev_hp I J R T) cz kz else G 92 14 [.ref 3, .int a0, .int a1, .int a2] [] (ev_hp I J R T) cz kz := by
  intro G
  rfl
set_option maxRecDepth 100000 in
theorem ne_r3 {a0 : Int32} {a1 : Int32} {a2 : Int32} : ∀ G : ez_F, fx_up X 1 G 92 69 [.ref 3, .int a0, .int a1, .int a2] [] (ev_hp I J R T) cz kz = some (none, (ev_hp I J R T), cz, kz) := by
  intro G
  rfl
set_option maxRecDepth 100000 in
theorem ne_r4 {a0 : Int32} {a1 : Int32} {a2 : Int32} : ∀ G : ez_F, fx_up X 2 G 92 14 [.ref 3, .int a0, .int a1, .int a2] [] (ev_hp I J R T) cz kz = G 92 18 [.ref 3, .int a0, .int a1, .int a2, .int (-3 : Int32)] [] (ev_hp I J R T) cz kz := by
  intro G
  rfl
theorem ne_3 {s p : Nat} {y : Int32}
    (H : (((I 1 4) ≤ y → Q none (ev_hp I J R T)) ∧ (¬ ((I 1 4) ≤ y) → pw N X 92 18 [.ref 3, .int (Int32.ofNat s), .int (Int32.ofNat p), .int y, .int (-3 : Int32)] [] (ev_hp I J R T) Q))) : pw (N + 1) X 92 3 [.ref 3, .int (Int32.ofNat s), .int (Int32.ofNat p), .int y] [] (ev_hp I J R T) Q := by
  refine pw_seg (by decide) (fun _ _ => ne_r1) ?_
  refine pw_p (pw_if (by decide) (fun _ _ => ne_r2) (fun w1 => ?_) (fun w1 => ?_))
  · have h1 := H.1 w1
    exact pw_p (pw_ret (by decide) (fun _ _ => ne_r3) h1)
  · have h1 := H.2 w1
    refine pw_p (pw_seg (by decide) (fun _ _ => ne_r4) ?_)
    exact h1
set_option maxRecDepth 100000 in
theorem ne_r5 {a0 : Int32} {a1 : Int32} {a2 : Int32} {a3 : Int32} : ∀ G : ez_F, fx_up X 4 G 92 18 [.ref 3, .int a0, .int a1, .int a2, .int a3] [] (ev_hp I J R T) cz kz = G 92 27 [.ref 3, .int a0, .int a1, .int a2, .int a3] [.int (I 1 3), .int a3] (ev_hp I J R T) cz kz := by
  intro G
  rfl
set_option maxRecDepth 100000 in
theorem ne_r6 {a0 : Int32} {a1 : Int32} {a2 : Int32} {a3 : Int32} {a4 : Int32} {a5 : Int32} : ∀ G : ez_F, fx_up X 1 G 92 27 [.ref 3, .int a0, .int a1, .int a2, .int a3] [.int a4, .int a5] (ev_hp I J R T) cz kz = bif decide (a4 ≤ a5) then G 92 63 [.ref 3, .int a0, .int a1, .int a2, .int a3] [] (ev_hp I J R T) cz kz else G 92 30 [.ref 3, .int a0, .int a1, .int a2, .int a3] [] (ev_hp I J R T) cz kz := by
  intro G
  rfl
set_option maxRecDepth 100000 in
theorem ne_r7 {a0 : Int32} {a1 : Int32} {a2 : Int32} {a3 : Int32} : ∀ G : ez_F, fx_up X 2 G 92 63 [.ref 3, .int a0, .int a1, .int a2, .int a3] [] (ev_hp I J R T) cz kz = G 92 3 [.ref 3, .int a0, .int a1, .int (a2 + (1 : Int32)), .int a3] [] (ev_hp I J R T) cz kz := by
  intro G
  rfl
set_option maxRecDepth 100000 in
theorem ne_r8 {a0 : Int32} {a1 : Int32} {a2 : Int32} {a3 : Int32} : ∀ G : ez_F, fx_up X 6 G 92 30 [.ref 3, .int a0, .int a1, .int a2, .int a3] [] (ev_hp I J R T) cz kz = ev_C G 149 [.ref 1, .int a1, .int a3, .int a2] (ev_hp I J R T) fun r h1 c1 k1 => G 92 41 [.ref 3, .int a0, .int a1, .int a2, .int a3] (r.toList ++ []) h1 (cz + c1) (kz + k1) := by
  intro G
  rfl
set_option maxRecDepth 100000 in
theorem ne_r9 {a0 : Int32} {a1 : Int32} {a2 : Int32} {a3 : Int32} {a4 : Int64} : ∀ G : ez_F, fx_up X 5 G 92 41 [.ref 3, .int a0, .int a1, .int a2, .int a3] [.long a4] (ev_hp I J R T) cz kz = bif decide ((lg_cmp a4 (0 : Int64)) = (0 : Int32)) then G 92 57 [.ref 3, .int a0, .int a1, .int a2, .int a3, .long a4, ez_fill] [] (ev_hp I J R T) cz kz else G 92 50 [.ref 3, .int a0, .int a1, .int a2, .int a3, .long a4, ez_fill] [] (ev_hp I J R T) cz kz := by
  intro G
  rfl
set_option maxRecDepth 100000 in
theorem ne_r10 {a0 : Int32} {a1 : Int32} {a2 : Int32} {a3 : Int32} {a4 : Int64} : ∀ G : ez_F, fx_up X 2 G 92 57 [.ref 3, .int a0, .int a1, .int a2, .int a3, .long a4, ez_fill] [] (ev_hp I J R T) cz kz = G 92 18 [.ref 3, .int a0, .int a1, .int a2, .int (a3 + (1 : Int32)), .long a4, ez_fill] [] (ev_hp I J R T) cz kz := by
  intro G
  rfl
set_option maxRecDepth 100000 in
theorem ne_r11 {a0 : Int32} {a1 : Int32} {a2 : Int32} {a3 : Int32} {a4 : Int64} : ∀ G : ez_F, fx_up X 4 G 92 50 [.ref 3, .int a0, .int a1, .int a2, .int a3, .long a4, ez_fill] [] (ev_hp I J R T) cz kz = ev_C G 91 [.ref 3, .int a0, .long a4] (ev_hp I J R T) fun r h1 c1 k1 => G 92 57 [.ref 3, .int a0, .int a1, .int a2, .int a3, .long a4, ez_fill] (r.toList ++ []) h1 (cz + c1) (kz + k1) := by
  intro G
  rfl
theorem ne_18 {s p : Nat} {y x : Int32}
    (H : (((I 1 3) ≤ x → pw N X 92 3 [.ref 3, .int (Int32.ofNat s), .int (Int32.ofNat p), .int (y + (1 : Int32))] [] (ev_hp I J R T) Q) ∧ (¬ ((I 1 3) ≤ x) → (((lg_cmp (pd_F (I 1 3) (I 1 4) (I 1 5) (Int32.ofNat p) x y 16 0 0) (0 : Int64)) = (0 : Int32) → pw N X 92 18 [.ref 3, .int (Int32.ofNat s), .int (Int32.ofNat p), .int y, .int (x + (1 : Int32))] [] (ev_hp I J R T) Q) ∧ (¬ ((lg_cmp (pd_F (I 1 3) (I 1 4) (I 1 5) (Int32.ofNat p) x y 16 0 0) (0 : Int64)) = (0 : Int32)) → (∃ Q1 : pw_Q, pe N X 91 [.ref 3, .int (Int32.ofNat s), .long (pd_F (I 1 3) (I 1 4) (I 1 5) (Int32.ofNat p) x y 16 0 0)] (ev_hp I J R T) Q1 ∧ ∀ (r : Option Value) (h1 : ez_H), Q1 r h1 → pw N X 92 57 [.ref 3, .int (Int32.ofNat s), .int (Int32.ofNat p), .int y, .int x, .long (pd_F (I 1 3) (I 1 4) (I 1 5) (Int32.ofNat p) x y 16 0 0), ez_fill] (r.toList ++ []) h1 Q)))))) : pw (N + 1) X 92 18 [.ref 3, .int (Int32.ofNat s), .int (Int32.ofNat p), .int y, .int x] [] (ev_hp I J R T) Q := by
  refine pw_seg (by decide) (fun _ _ => ne_r5) ?_
  refine pw_p (pw_if (by decide) (fun _ _ => ne_r6) (fun w1 => ?_) (fun w1 => ?_))
  · have h1 := H.1 w1
    refine pw_p (pw_seg (by decide) (fun _ _ => ne_r7) ?_)
    refine pw_cutl (by rfl) ?_
    exact h1
  · have h1 := H.2 w1
    refine pw_p (pw_callp (by decide) (fun _ _ => ne_r8) (pe_is (ex_placed _ _ _ _ _ _ _ _)) ?_)
    refine pw_p (pw_if (by decide) (fun _ _ => ne_r9) (fun w2 => ?_) (fun w2 => ?_))
    · have h2 := h1.1 w2
      refine pw_p (pw_seg (by decide) (fun _ _ => ne_r10) ?_)
      refine pw_cutl (by rfl) ?_
      exact h2
    · have h2 := h1.2 w2
      obtain ⟨Q1, hc, hk⟩ := h2
      exact pw_p (pw_call (by decide) (fun _ _ => ne_r11) hc hk)
theorem ne_57 {s p : Nat} {y x : Int32} {v : Int64}
    (H : pw N X 92 18 [.ref 3, .int (Int32.ofNat s), .int (Int32.ofNat p), .int y, .int (x + (1 : Int32))] [] (ev_hp I J R T) Q) : pw (N + 1) X 92 57 [.ref 3, .int (Int32.ofNat s), .int (Int32.ofNat p), .int y, .int x, .long v, ez_fill] [] (ev_hp I J R T) Q := by
  refine pw_seg (by decide) (fun _ _ => ne_r10) ?_
  refine pw_cutl (by rfl) ?_
  exact H
end
section
variable {N : Nat} {X : ez_X} {I : Nat → Nat → Int32} {J : Nat → Nat → Int64} {R : Nat → Nat} {T : List ez_C} {Q : pw_Q} {cz kz : Nat}
set_option maxRecDepth 100000 in
theorem bd_r0 {a0 : Int32} {a1 : Int32} : ∀ G : ez_F, fx_up X 2 G 85 0 [.ref 3, .int a0, .int a1] [] (ev_hp I J R T) cz kz = G 85 4 [.ref 3, .int a0, .int a1] [.int (I 3 3)] (ev_hp I J R T) cz kz := by
  intro G
  rfl
set_option maxRecDepth 100000 in
theorem bd_r1 {a0 : Int32} {a1 : Int32} {a2 : Int32} : ∀ G : ez_F, fx_up X 6 G 85 4 [.ref 3, .int a0, .int a1] [.int a2] (ev_hp I J R T) cz kz = ev_C G 38 [.ref 5, .int a2, .int (0 : Int32)] (ev_hp I J R T) fun r h1 c1 k1 => G 85 14 [.ref 3, .int a0, .int a1, .int a2] (r.toList ++ []) h1 (cz + c1) (kz + k1) := by
  intro G
  rfl
set_option maxRecDepth 100000 in
theorem bd_r2 {a0 : Int32} {a1 : Int32} {a2 : Int32} : ∀ G : ez_F, fx_up X 4 G 85 14 [.ref 3, .int a0, .int a1, .int a2] [] (ev_hp I J R T) cz kz = G 85 20 [.ref 3, .int a0, .int a1, .int a2, .int a0, .int (0 : Int32)] [] (ev_hp I J R T) cz kz := by
  intro G
  rfl
theorem bd_0 {p t : Nat}
    (H : pw N X 85 20 [.ref 3, .int (Int32.ofNat p), .int (Int32.ofNat t), .int (I 3 3), .int (Int32.ofNat p), .int (0 : Int32)] [] (ev_hp (ev_sI I 5 (ev_put 3 (I 5) (I 3 3) (0 : Int32))) J R T) Q) : pw (N + 1) X 85 0 [.ref 3, .int (Int32.ofNat p), .int (Int32.ofNat t)] [] (ev_hp I J R T) Q := by
  refine pw_seg (by decide) (fun _ _ => bd_r0) ?_
  refine pw_p (pw_callp (by decide) (fun _ _ => bd_r1) (pe_put (show cx_Ds[5]? = some (0, 3, []) from rfl) (by decide)) ?_)
  refine pw_p (pw_seg (by decide) (fun _ _ => bd_r2) ?_)
  exact H
set_option maxRecDepth 100000 in
theorem bd_r3 {a0 : Int32} {a1 : Int32} {a2 : Int32} {a3 : Int32} {a4 : Int32} : ∀ G : ez_F, fx_up X 4 G 85 20 [.ref 3, .int a0, .int a1, .int a2, .int a3, .int a4] [] (ev_hp I J R T) cz kz = bif decide (¬ a1 = (2 : Int32)) then G 85 31 [.ref 3, .int a0, .int a1, .int a2, .int a3, .int a4] [.int a4] (ev_hp I J R T) cz kz else G 85 27 [.ref 3, .int a0, .int a1, .int a2, .int a3, .int a4] [.int a4] (ev_hp I J R T) cz kz := by
  intro G
  rfl
set_option maxRecDepth 100000 in
theorem bd_r4 {a0 : Int32} {a1 : Int32} {a2 : Int32} {a3 : Int32} {a4 : Int32} {a5 : Int32} : ∀ G : ez_F, fx_up X 2 G 85 31 [.ref 3, .int a0, .int a1, .int a2, .int a3, .int a4] [.int a5] (ev_hp I J R T) cz kz = bif decide ((1 : Int32) ≤ a5) then G 85 85 [.ref 3, .int a0, .int a1, .int a2, .int a3, .int a4] [] (ev_hp I J R T) cz kz else G 85 35 [.ref 3, .int a0, .int a1, .int a2, .int a3, .int a4] [] (ev_hp I J R T) cz kz := by
  intro G
  rfl
set_option maxRecDepth 100000 in
theorem bd_r5 {a0 : Int32} {a1 : Int32} {a2 : Int32} {a3 : Int32} {a4 : Int32} : ∀ G : ez_F, fx_up X 2 G 85 35 [.ref 3, .int a0, .int a1, .int a2, .int a3, .int a4] [] (ev_hp I J R T) cz kz = G 85 38 [.ref 3, .int a0, .int a1, .int a2, .int a3, .int a4, .int (0 : Int32)] [] (ev_hp I J R T) cz kz := by
  intro G
  rfl
set_option maxRecDepth 100000 in
theorem bd_r6 {a0 : Int32} {a1 : Int32} {a2 : Int32} {a3 : Int32} {a4 : Int32} {a5 : Int32} : ∀ G : ez_F, fx_up X 3 G 85 27 [.ref 3, .int a0, .int a1, .int a2, .int a3, .int a4] [.int a5] (ev_hp I J R T) cz kz = bif decide ((2 : Int32) ≤ a5) then G 85 85 [.ref 3, .int a0, .int a1, .int a2, .int a3, .int a4] [] (ev_hp I J R T) cz kz else G 85 35 [.ref 3, .int a0, .int a1, .int a2, .int a3, .int a4] [] (ev_hp I J R T) cz kz := by
  intro G
  rfl
theorem bd_20 {p t s w : Nat} {e : Int32}
    (H : ((¬ (Int32.ofNat t) = (2 : Int32) → (((1 : Int32) ≤ e → pw N X 85 85 [.ref 3, .int (Int32.ofNat p), .int (Int32.ofNat t), .int (Int32.ofNat s), .int (Int32.ofNat w), .int e] [] (ev_hp I J R T) Q) ∧ (¬ ((1 : Int32) ≤ e) → pw N X 85 38 [.ref 3, .int (Int32.ofNat p), .int (Int32.ofNat t), .int (Int32.ofNat s), .int (Int32.ofNat w), .int e, .int (0 : Int32)] [] (ev_hp I J R T) Q))) ∧ (¬ (¬ (Int32.ofNat t) = (2 : Int32)) → (((2 : Int32) ≤ e → pw N X 85 85 [.ref 3, .int (Int32.ofNat p), .int (Int32.ofNat t), .int (Int32.ofNat s), .int (Int32.ofNat w), .int e] [] (ev_hp I J R T) Q) ∧ (¬ ((2 : Int32) ≤ e) → pw N X 85 38 [.ref 3, .int (Int32.ofNat p), .int (Int32.ofNat t), .int (Int32.ofNat s), .int (Int32.ofNat w), .int e, .int (0 : Int32)] [] (ev_hp I J R T) Q))))) : pw (N + 1) X 85 20 [.ref 3, .int (Int32.ofNat p), .int (Int32.ofNat t), .int (Int32.ofNat s), .int (Int32.ofNat w), .int e] [] (ev_hp I J R T) Q := by
  refine pw_if (by decide) (fun _ _ => bd_r3) (fun w1 => ?_) (fun w1 => ?_)
  · have h1 := H.1 w1
    refine pw_p (pw_if (by decide) (fun _ _ => bd_r4) (fun w2 => ?_) (fun w2 => ?_))
    · have h2 := h1.1 w2
      exact h2
    · have h2 := h1.2 w2
      refine pw_p (pw_seg (by decide) (fun _ _ => bd_r5) ?_)
      exact h2
  · have h1 := H.2 w1
    refine pw_p (pw_if (by decide) (fun _ _ => bd_r6) (fun w2 => ?_) (fun w2 => ?_))
    · have h2 := h1.1 w2
      exact h2
    · have h2 := h1.2 w2
      refine pw_p (pw_seg (by decide) (fun _ _ => bd_r5) ?_)
      exact h2
set_option maxRecDepth 100000 in
theorem bd_r7 {a0 : Int32} {a1 : Int32} {a2 : Int32} {a3 : Int32} {a4 : Int32} {a5 : Int32} : ∀ G : ez_F, fx_up X 3 G 85 38 [.ref 3, .int a0, .int a1, .int a2, .int a3, .int a4, .int a5] [] (ev_hp I J R T) cz kz = bif decide (¬ a1 = (0 : Int32)) then G 85 48 [.ref 3, .int a0, .int a1, .int a2, .int a3, .int a4, .int a5] [.int a5] (ev_hp I J R T) cz kz else G 85 44 [.ref 3, .int a0, .int a1, .int a2, .int a3, .int a4, .int a5] [.int a5] (ev_hp I J R T) cz kz := by
  intro G
  rfl
set_option maxRecDepth 100000 in
theorem bd_r8 {a0 : Int32} {a1 : Int32} {a2 : Int32} {a3 : Int32} {a4 : Int32} {a5 : Int32} {a6 : Int32} : ∀ G : ez_F, fx_up X 2 G 85 48 [.ref 3, .int a0, .int a1, .int a2, .int a3, .int a4, .int a5] [.int a6] (ev_hp I J R T) cz kz = bif decide ((4 : Int32) ≤ a6) then G 85 72 [.ref 3, .int a0, .int a1, .int a2, .int a3, .int a4, .int a5] [] (ev_hp I J R T) cz kz else G 85 52 [.ref 3, .int a0, .int a1, .int a2, .int a3, .int a4, .int a5] [] (ev_hp I J R T) cz kz := by
  intro G
  rfl
set_option maxRecDepth 100000 in
theorem bd_r9 {a0 : Int32} {a1 : Int32} {a2 : Int32} {a3 : Int32} {a4 : Int32} {a5 : Int32} : ∀ G : ez_F, fx_up X 4 G 85 52 [.ref 3, .int a0, .int a1, .int a2, .int a3, .int a4, .int a5] [] (ev_hp I J R T) cz kz = ev_C G 92 [.ref 3, .int a2, .int a3] (ev_hp I J R T) fun r h1 c1 k1 => G 85 59 [.ref 3, .int a0, .int a1, .int a2, .int a3, .int a4, .int a5] (r.toList ++ []) h1 (cz + c1) (kz + k1) := by
  intro G
  rfl
set_option maxRecDepth 100000 in
theorem bd_r10 {a0 : Int32} {a1 : Int32} {a2 : Int32} {a3 : Int32} {a4 : Int32} {a5 : Int32} {a6 : Int32} : ∀ G : ez_F, fx_up X 3 G 85 44 [.ref 3, .int a0, .int a1, .int a2, .int a3, .int a4, .int a5] [.int a6] (ev_hp I J R T) cz kz = bif decide ((1 : Int32) ≤ a6) then G 85 72 [.ref 3, .int a0, .int a1, .int a2, .int a3, .int a4, .int a5] [] (ev_hp I J R T) cz kz else G 85 52 [.ref 3, .int a0, .int a1, .int a2, .int a3, .int a4, .int a5] [] (ev_hp I J R T) cz kz := by
  intro G
  rfl
theorem bd_38 {p t s w q : Nat} {e : Int32}
    (H : ((¬ (Int32.ofNat t) = (0 : Int32) → (((4 : Int32) ≤ (Int32.ofNat q) → pw N X 85 72 [.ref 3, .int (Int32.ofNat p), .int (Int32.ofNat t), .int (Int32.ofNat s), .int (Int32.ofNat w), .int e, .int (Int32.ofNat q)] [] (ev_hp I J R T) Q) ∧ (¬ ((4 : Int32) ≤ (Int32.ofNat q)) → (∃ Q1 : pw_Q, pe N X 92 [.ref 3, .int (Int32.ofNat s), .int (Int32.ofNat w)] (ev_hp I J R T) Q1 ∧ ∀ (r : Option Value) (h1 : ez_H), Q1 r h1 → pw N X 85 59 [.ref 3, .int (Int32.ofNat p), .int (Int32.ofNat t), .int (Int32.ofNat s), .int (Int32.ofNat w), .int e, .int (Int32.ofNat q)] (r.toList ++ []) h1 Q)))) ∧ (¬ (¬ (Int32.ofNat t) = (0 : Int32)) → (((1 : Int32) ≤ (Int32.ofNat q) → pw N X 85 72 [.ref 3, .int (Int32.ofNat p), .int (Int32.ofNat t), .int (Int32.ofNat s), .int (Int32.ofNat w), .int e, .int (Int32.ofNat q)] [] (ev_hp I J R T) Q) ∧ (¬ ((1 : Int32) ≤ (Int32.ofNat q)) → (∃ Q1 : pw_Q, pe N X 92 [.ref 3, .int (Int32.ofNat s), .int (Int32.ofNat w)] (ev_hp I J R T) Q1 ∧ ∀ (r : Option Value) (h1 : ez_H), Q1 r h1 → pw N X 85 59 [.ref 3, .int (Int32.ofNat p), .int (Int32.ofNat t), .int (Int32.ofNat s), .int (Int32.ofNat w), .int e, .int (Int32.ofNat q)] (r.toList ++ []) h1 Q)))))) : pw (N + 1) X 85 38 [.ref 3, .int (Int32.ofNat p), .int (Int32.ofNat t), .int (Int32.ofNat s), .int (Int32.ofNat w), .int e, .int (Int32.ofNat q)] [] (ev_hp I J R T) Q := by
  refine pw_if (by decide) (fun _ _ => bd_r7) (fun w1 => ?_) (fun w1 => ?_)
  · have h1 := H.1 w1
    refine pw_p (pw_if (by decide) (fun _ _ => bd_r8) (fun w2 => ?_) (fun w2 => ?_))
    · have h2 := h1.1 w2
      exact h2
    · have h2 := h1.2 w2
      obtain ⟨Q1, hc, hk⟩ := h2
      exact pw_p (pw_call (by decide) (fun _ _ => bd_r9) hc hk)
  · have h1 := H.2 w1
    refine pw_p (pw_if (by decide) (fun _ _ => bd_r10) (fun w2 => ?_) (fun w2 => ?_))
    · have h2 := h1.1 w2
      exact h2
    · have h2 := h1.2 w2
      obtain ⟨Q1, hc, hk⟩ := h2
      exact pw_p (pw_call (by decide) (fun _ _ => bd_r9) hc hk)
set_option maxRecDepth 100000 in
theorem bd_r11 {a0 : Int32} {a1 : Int32} {a2 : Int32} {a3 : Int32} {a4 : Int32} {a5 : Int32} : ∀ G : ez_F, fx_up X 2 G 85 59 [.ref 3, .int a0, .int a1, .int a2, .int a3, .int a4, .int a5] [] (ev_hp I J R T) cz kz = ev_C G 93 [.int a3] (ev_hp I J R T) fun r h1 c1 k1 => G 85 64 [.ref 3, .int a0, .int a1, .int a2, .int a3, .int a4, .int a5] (r.toList ++ []) h1 (cz + c1) (kz + k1) := by
  intro G
  rfl
theorem bd_59 {p t s w q : Nat} {e : Int32}
    (H : (∃ Q1 : pw_Q, pe N X 93 [.int (Int32.ofNat w)] (ev_hp I J R T) Q1 ∧ ∀ (r : Option Value) (h1 : ez_H), Q1 r h1 → pw N X 85 64 [.ref 3, .int (Int32.ofNat p), .int (Int32.ofNat t), .int (Int32.ofNat s), .int (Int32.ofNat w), .int e, .int (Int32.ofNat q)] (r.toList ++ []) h1 Q)) : pw (N + 1) X 85 59 [.ref 3, .int (Int32.ofNat p), .int (Int32.ofNat t), .int (Int32.ofNat s), .int (Int32.ofNat w), .int e, .int (Int32.ofNat q)] [] (ev_hp I J R T) Q := by
  obtain ⟨Q1, hc, hk⟩ := H
  exact pw_call (by decide) (fun _ _ => bd_r11) hc hk
set_option maxRecDepth 100000 in
theorem bd_r12 {a0 : Int32} {a1 : Int32} {a2 : Int32} {a3 : Int32} {a4 : Int32} {a5 : Int32} {a6 : Int32} : ∀ G : ez_F, fx_up X 3 G 85 64 [.ref 3, .int a0, .int a1, .int a2, .int a3, .int a4, .int a5] [.int a6] (ev_hp I J R T) cz kz = G 85 38 [.ref 3, .int a0, .int a1, .int a2, .int a6, .int a4, .int (a5 + (1 : Int32))] [] (ev_hp I J R T) cz kz := by
  intro G
  rfl
theorem bd_64 {p t s w q : Nat} {e x : Int32}
    (H : pw N X 85 38 [.ref 3, .int (Int32.ofNat p), .int (Int32.ofNat t), .int (Int32.ofNat s), .int x, .int e, .int ((Int32.ofNat q) + (1 : Int32))] [] (ev_hp I J R T) Q) : pw (N + 1) X 85 64 [.ref 3, .int (Int32.ofNat p), .int (Int32.ofNat t), .int (Int32.ofNat s), .int (Int32.ofNat w), .int e, .int (Int32.ofNat q)] [.int x] (ev_hp I J R T) Q := by
  refine pw_seg (by decide) (fun _ _ => bd_r12) ?_
  exact H
set_option maxRecDepth 100000 in
theorem bd_r13 {a0 : Int32} {a1 : Int32} {a2 : Int32} {a3 : Int32} {a4 : Int32} {a5 : Int32} : ∀ G : ez_F, fx_up X 2 G 85 72 [.ref 3, .int a0, .int a1, .int a2, .int a3, .int a4, .int a5] [] (ev_hp I J R T) cz kz = ev_C G 90 [.int a3] (ev_hp I J R T) fun r h1 c1 k1 => G 85 77 [.ref 3, .int a0, .int a1, .int a2, .int a3, .int a4, .int a5] (r.toList ++ []) h1 (cz + c1) (kz + k1) := by
  intro G
  rfl
theorem bd_72 {p t s w q : Nat} {e : Int32}
    (H : (∃ Q1 : pw_Q, pe N X 90 [.int (Int32.ofNat w)] (ev_hp I J R T) Q1 ∧ ∀ (r : Option Value) (h1 : ez_H), Q1 r h1 → pw N X 85 77 [.ref 3, .int (Int32.ofNat p), .int (Int32.ofNat t), .int (Int32.ofNat s), .int (Int32.ofNat w), .int e, .int (Int32.ofNat q)] (r.toList ++ []) h1 Q)) : pw (N + 1) X 85 72 [.ref 3, .int (Int32.ofNat p), .int (Int32.ofNat t), .int (Int32.ofNat s), .int (Int32.ofNat w), .int e, .int (Int32.ofNat q)] [] (ev_hp I J R T) Q := by
  obtain ⟨Q1, hc, hk⟩ := H
  exact pw_call (by decide) (fun _ _ => bd_r13) hc hk
set_option maxRecDepth 100000 in
theorem bd_r14 {a0 : Int32} {a1 : Int32} {a2 : Int32} {a3 : Int32} {a4 : Int32} {a5 : Int32} {a6 : Int32} : ∀ G : ez_F, fx_up X 3 G 85 77 [.ref 3, .int a0, .int a1, .int a2, .int a3, .int a4, .int a5] [.int a6] (ev_hp I J R T) cz kz = G 85 20 [.ref 3, .int a0, .int a1, .int a2, .int a6, .int (a4 + (1 : Int32)), .int a5] [] (ev_hp I J R T) cz kz := by
  intro G
  rfl
theorem bd_77 {p t s w q : Nat} {e x : Int32}
    (H : pw N X 85 20 [.ref 3, .int (Int32.ofNat p), .int (Int32.ofNat t), .int (Int32.ofNat s), .int x, .int (e + (1 : Int32))] [] (ev_hp I J R T) Q) : pw (N + 1) X 85 77 [.ref 3, .int (Int32.ofNat p), .int (Int32.ofNat t), .int (Int32.ofNat s), .int (Int32.ofNat w), .int e, .int (Int32.ofNat q)] [.int x] (ev_hp I J R T) Q := by
  refine pw_seg (by decide) (fun _ _ => bd_r14) ?_
  refine pw_cutl (by rfl) ?_
  exact H
set_option maxRecDepth 100000 in
theorem bd_r15 {a0 : Int32} {a1 : Int32} {a2 : Int32} {a3 : Int32} {a4 : Int32} : ∀ G : ez_F, fx_up X 5 G 85 85 [.ref 3, .int a0, .int a1, .int a2, .int a3, .int a4] [] (ev_hp I J R T) cz kz = G 85 92 [.ref 3, .int a0, .int a1, .int a2, .int a3, .int a4] [] (ev_hp (ev_sI I 3 (upd (I 3) 3 (a2 + (1 : Int32)))) J R T) cz kz := by
  intro G
  rfl
set_option maxRecDepth 100000 in
theorem bd_r16 {a0 : Int32} {a1 : Int32} {a2 : Int32} {a3 : Int32} {a4 : Int32} : ∀ G : ez_F, fx_up X 2 G 85 92 [.ref 3, .int a0, .int a1, .int a2, .int a3, .int a4] [] (ev_hp I J R T) cz kz = some (some (.int a2), (ev_hp I J R T), cz, kz) := by
  intro G
  rfl
theorem bd_85 {p t s : Nat} {w e : Int32}
    (H : Q (some (.int (Int32.ofNat s))) (ev_hp (ev_sI I 3 (upd (I 3) 3 ((Int32.ofNat s) + (1 : Int32)))) J R T)) : pw (N + 1) X 85 85 [.ref 3, .int (Int32.ofNat p), .int (Int32.ofNat t), .int (Int32.ofNat s), .int w, .int e] [] (ev_hp I J R T) Q := by
  refine pw_seg (by decide) (fun _ _ => bd_r15) ?_
  exact pw_p (pw_ret (by decide) (fun _ _ => bd_r16) H)
end
/-- a ship's row holds just these -/
noncomputable def fl (I : Nat → Nat → Int32) (J : Nat → Nat → Int64) (s : Nat) (A : Int64 → Prop) (I' : Nat → Nat → Int32) (J' : Nat → Nat → Int64) : Prop := ∃ n f, I' = ev_sI I 5 (upd (I 5) s (Int32.ofNat n)) ∧ J' = ev_sJ J 4 f ∧ srt f (288 * s) n ∧ n ≤ 288 ∧ (∀ w, inrow f (288 * s) n w ↔ A w) ∧ ∀ q, q < 288 * s ∨ 288 * s + 288 ≤ q → f q = J 4 q
theorem i_inc {x : Int32} (h : x.toInt < 1000) : (x + (1 : Int32)).toInt = x.toInt + 1 := by
  have := Int32.le_toInt x
  rw [Int32.toInt_add, show (1 : Int32).toInt = 1 from by decide, cx_bm32]
  simp only [cx_i32]
  omega
section
variable {N : Nat} {X : ez_X} {I I' : Nat → Nat → Int32} {J J' : Nat → Nat → Int64} {R : Nat → Nat} {T : List ez_C} {A A' : Int64 → Prop} {s : Nat}
theorem fl_congr (h : fl I J s A I' J') (e : ∀ u, A u ↔ A' u) : fl I J s A' I' J' := by
  obtain ⟨n, f, h1, h2, h3, h4, h5, h6⟩ := h
  exact ⟨n, f, h1, h2, h3, h4, fun w => (h5 w).trans (e w), h6⟩
theorem fl_I (h : fl I J s A I' J') {a : Nat} (ha : a ≠ 5) : I' a = I a := by
  obtain ⟨n, f, h1, -⟩ := h
  rw [h1, cx_sI_n _ _ ha]
theorem fl_note {v : Int64} (hs : s < 3) (h : fl I J s A I' J') (hb : ∀ (f : Nat → Int64) (n : Nat), srt f (288 * s) n → (∀ w, inrow f (288 * s) n w ↔ A w) → ¬ A v → n < 288) :
    pe N X 91 [.ref 3, .int (Int32.ofNat s), .long v] (ev_hp I' J' R T) (fun r h => r = none ∧ ∃ I2 J2, h = ev_hp I2 J2 R T ∧ fl I J s (fun u => A u ∨ u = v) I2 J2) := by
  obtain ⟨n, f, h1, h2, h3, h4, h5, h6⟩ := h
  have e5 : I' 5 = upd (I 5) s (Int32.ofNat n) := by rw [h1, cx_sI_s]
  have e4 : J' 4 = f := by rw [h2, cx_sJ_s]
  refine pe_mono (pe_note (n := n) hs (by rw [e5, upd_s]) h4 (by rw [e4]; exact h3) fun hn => ?_) ?_
  · rw [e4] at hn
    exact hb f n h3 h5 fun z => hn ((h5 v).mpr z)
  · rintro r h ⟨rfl, f', n', rfl, g1, g2, g3, g4⟩
    refine ⟨rfl, _, _, rfl, n', f', ?_, ?_, g1, g2, fun w => ?_, fun q hq => ?_⟩
    · rw [e5, h1, sI2, upd_2]
    · rw [h2, fs_sJ2]
    · rw [g3 w, e4, h5 w]
    · rw [g4 q hq, e4, h6 q hq]
theorem ne_loop {p K sh : Nat} (hs : s < 3) (hwr : I 1 5 = 0 ∨ I 1 5 = 1) (hW : 2 ≤ (I 1 3).toInt ∧ (I 1 3).toInt ≤ 6) (hH : 2 ≤ (I 1 4).toInt ∧ (I 1 4).toInt ≤ 6) (hp : p < 65536) (hK : K ≤ 8)
    (hAM : ∀ u, A u → sp_M (I 1 3) (I 1 4) (I 1 5) sh K u) (hNM : ∀ u, sp_N (I 1 3) (I 1 4) (I 1 5) p u → sp_M (I 1 3) (I 1 4) (I 1 5) sh K u) {Q : pw_Q} (cont : ∀ I2 J2, fl I J s (fun u => A u ∨ sp_N (I 1 3) (I 1 4) (I 1 5) p u) I2 J2 → Q none (ev_hp I2 J2 R T)) :
    ∀ (N : Nat), (∀ (y : Int32) I2 J2, -3 ≤ y.toInt → y.toInt ≤ (I 1 4).toInt → fl I J s (ne_A (I 1 3) (I 1 4) (I 1 5) p A y.toInt (-3)) I2 J2 → pw N X 92 3 [.ref 3, .int (Int32.ofNat s), .int (Int32.ofNat p), .int y] [] (ev_hp I2 J2 R T) Q) ∧
      (∀ (y x : Int32) I2 J2, -3 ≤ y.toInt → y.toInt < (I 1 4).toInt → -3 ≤ x.toInt → x.toInt ≤ (I 1 3).toInt → fl I J s (ne_A (I 1 3) (I 1 4) (I 1 5) p A y.toInt x.toInt) I2 J2 → pw N X 92 18 [.ref 3, .int (Int32.ofNat s), .int (Int32.ofNat p), .int y, .int x] [] (ev_hp I2 J2 R T) Q) := by
  have e3 : (-3 : Int32).toInt = -3 := by decide
  have allM : ∀ (y x : Int) u, ne_A (I 1 3) (I 1 4) (I 1 5) p A y x u → y ≤ (I 1 4).toInt → (y = (I 1 4).toInt → x ≤ -3) → sp_M (I 1 3) (I 1 4) (I 1 5) sh K u := by
    rintro y x u (h | ⟨h1, dx, dy, h2, h3, h4, h5⟩) hy hx
    · exact hAM u h
    · obtain ⟨m, hm, e1, e2⟩ := sp_no (x := dx) (y := dy) (by omega) (by omega)
      exact hNM u ⟨h1, m, hm, by rw [h2]; unfold sp_u; rw [e1, e2]⟩
  intro N
  induction N with
  | zero => exact ⟨fun _ _ _ _ _ _ => pw_0, fun _ _ _ _ _ _ _ _ _ => pw_0⟩
  | succ N ih =>
    refine ⟨fun y I2 J2 hy0 hy1 hfl => ?_, fun y x I2 J2 hy0 hy1 hx0 hx1 hfl => ?_⟩
    · have eI := fl_I hfl (a := 1) (by decide)
      refine ne_3 ⟨fun w => ?_, fun w => ?_⟩
      · rw [eI, Int32.le_iff_toInt_le] at w
        exact cont I2 J2 (fl_congr hfl (ne_A9 hwr hW hH (by omega)))
      · rw [eI, Int32.le_iff_toInt_le] at w
        exact ih.2 y (-3) I2 J2 hy0 (by omega) (by omega) (by omega) (by rw [e3]; exact hfl)
    · have eI := fl_I hfl (a := 1) (by decide)
      have next : ∀ I3 J3, fl I J s (ne_A (I 1 3) (I 1 4) (I 1 5) p A y.toInt (x.toInt + 1)) I3 J3 → x.toInt < (I 1 3).toInt → pw N X 92 18 [.ref 3, .int (Int32.ofNat s), .int (Int32.ofNat p), .int y, .int (x + (1 : Int32))] [] (ev_hp I3 J3 R T) Q := by
        intro I3 J3 h3 hlt
        have ex := i_inc (x := x) (by omega)
        exact ih.2 y (x + 1) I3 J3 hy0 hy1 (by omega) (by omega) (by rw [ex]; exact h3)
      refine ne_18 ⟨fun w => ?_, fun w => ⟨fun w2 => ?_, fun w2 => ?_⟩⟩
      · rw [eI, Int32.le_iff_toInt_le] at w
        have ey := i_inc (x := y) (by omega)
        exact ih.1 (y + 1) I2 J2 (by omega) (by omega) (by rw [ey]; exact fl_congr hfl (ne_A2 y.toInt x.toInt w))
      · rw [eI, Int32.le_iff_toInt_le] at w
        rw [lg_eq, eI, pd_is hwr hW hH (by omega) (by omega) hp] at w2
        refine next I2 J2 (fl_congr hfl fun u => ?_) (by omega)
        rw [ne_A1 (by omega) hy0 u]
        constructor
        · exact Or.inl
        · rintro (h | ⟨h1, h2⟩)
          · exact h
          · exact absurd (h2.trans w2) h1
      · rw [eI, Int32.le_iff_toInt_le] at w
        rw [lg_eq] at w2
        rw [eI, pd_is hwr hW hH (by omega) (by omega) hp] at w2 ⊢
        refine ⟨_, fl_note hs hfl (fun f n h1 h2 h3 => ?_), ?_⟩
        · refine sp_room hwr hW hH hK h1 (fun u hu => allM _ _ u ((h2 u).mp hu) (by omega) (by omega)) (hNM _ ?_) (fun z => h3 ((h2 _).mp z))
          obtain ⟨m, hm, e1, e2⟩ := sp_no (x := x) (y := y) (by omega) (by omega)
          exact ⟨w2, m, hm, by unfold sp_u; rw [e1, e2]⟩
        · rintro r h1 ⟨rfl, I3, J3, rfl, h3⟩
          refine pw_p (ne_57 (next I3 J3 (fl_congr h3 fun u => ?_) (by omega)))
          rw [ne_A1 (by omega) hy0 u]
          constructor
          · rintro (h | h)
            · exact Or.inl h
            · exact Or.inr ⟨by rw [h]; exact w2, h⟩
          · rintro (h | h)
            · exact Or.inl h
            · exact Or.inr h.2
theorem pe_ne {p K sh : Nat} (hs : s < 3) (hwr : I 1 5 = 0 ∨ I 1 5 = 1) (hW : 2 ≤ (I 1 3).toInt ∧ (I 1 3).toInt ≤ 6) (hH : 2 ≤ (I 1 4).toInt ∧ (I 1 4).toInt ≤ 6) (hp : p < 65536) (hK : K ≤ 8)
    (hAM : ∀ u, A u → sp_M (I 1 3) (I 1 4) (I 1 5) sh K u) (hNM : ∀ u, sp_N (I 1 3) (I 1 4) (I 1 5) p u → sp_M (I 1 3) (I 1 4) (I 1 5) sh K u) (h : fl I J s A I' J') :
    pe N X 92 [.ref 3, .int (Int32.ofNat s), .int (Int32.ofNat p)] (ev_hp I' J' R T) (fun r h => r = none ∧ ∃ I2 J2, h = ev_hp I2 J2 R T ∧ fl I J s (fun u => A u ∨ sp_N (I 1 3) (I 1 4) (I 1 5) p u) I2 J2) := by
  have e3 : (-3 : Int32).toInt = -3 := by decide
  refine pe_of (pw_p (ne_0 ?_))
  refine (ne_loop hs hwr hW hH hp hK hAM hNM (fun I2 J2 h2 => ⟨rfl, I2, J2, rfl, h2⟩) N).1 (-3) I' J' (by omega) (by omega) (fl_congr h fun u => ?_)
  rw [e3]
  exact (ne_A0 u).symm
end
/-! a ship is built -/
noncomputable def bd_Q (I : Nat → Nat → Int32) (J : Nat → Nat → Int64) (R : Nat → Nat) (T : List ez_C) (ns sh K : Nat) : pw_Q := fun r h => r = some (.int (Int32.ofNat ns)) ∧ ∃ I2 J2, h = ev_hp (ev_sI I2 3 (upd (I2 3) 3 (Int32.ofNat (ns + 1)))) J2 R T ∧ fl I J ns (sp_M (I 1 3) (I 1 4) (I 1 5) sh K) I2 J2
section
variable {X : ez_X} {I : Nat → Nat → Int32} {J : Nat → Nat → Int64} {R : Nat → Nat} {T : List ez_C} {s sh tn p : Nat} {e : Int32} {Q : pw_Q}
/-- one side: its quarters -/
theorem bd_side (hs : s < 3) (hwr : I 1 5 = 0 ∨ I 1 5 = 1) (hW : 2 ≤ (I 1 3).toInt ∧ (I 1 3).toInt ≤ 6) (hH : 2 ≤ (I 1 4).toInt ∧ (I 1 4).toInt ≤ 6) (hp : sh < 65536) {base lim : Nat} (hlim : lim = if tn = 0 then 1 else 4) (htn : tn < 3) (hb : base = 0 ∨ base = 4) (N : Nat)
    (cont : ∀ (w : Nat) I2 J2, w < 65536 → (lim = 4 → w = pm sg (pm (rt (base + 3)) sh 16) 16) → fl I J s (sp_M (I 1 3) (I 1 4) (I 1 5) sh (base + lim)) I2 J2 → pw N X 85 72 [.ref 3, .int (Int32.ofNat p), .int (Int32.ofNat tn), .int (Int32.ofNat s), .int (Int32.ofNat w), .int e, .int (Int32.ofNat lim)] [] (ev_hp I2 J2 R T) Q) :
    ∀ (D q w : Nat) I2 J2, q + D = lim → w < 65536 → (q < 4 → w = pm (rt (base + q)) sh 16) → (q = 4 → w = pm sg (pm (rt (base + 3)) sh 16) 16) → fl I J s (sp_M (I 1 3) (I 1 4) (I 1 5) sh (base + q)) I2 J2 →
      pw N X 85 38 [.ref 3, .int (Int32.ofNat p), .int (Int32.ofNat tn), .int (Int32.ofNat s), .int (Int32.ofNat w), .int e, .int (Int32.ofNat q)] [] (ev_hp I2 J2 R T) Q := by
  have hl4 : lim ≤ 4 := by rw [hlim]; split <;> omega
  have t0 : (Int32.ofNat tn = (0 : Int32)) ↔ tn = 0 := by
    rw [show (0 : Int32) = Int32.ofNat 0 from rfl, io_eq (by omega) (by omega)]
  intro D
  induction D with
  | zero =>
    intro q w I2 J2 hq hw h1 h2 hfl
    obtain rfl : q = lim := by omega
    have fin := cont w I2 J2 hw (fun h => h2 h) hfl
    refine pw_p (bd_38 ⟨fun z => ⟨fun _ => fin, fun z2 => ?_⟩, fun z => ⟨fun _ => fin, fun z2 => ?_⟩⟩)
    · rw [t0] at z
      rw [if_neg z] at hlim
      rw [show (4 : Int32) = Int32.ofNat 4 from rfl, io_le (by omega) (by omega)] at z2
      omega
    · rw [t0, Classical.not_not] at z
      rw [if_pos z] at hlim
      rw [show (1 : Int32) = Int32.ofNat 1 from rfl, io_le (by omega) (by omega)] at z2
      omega
  | succ D ih =>
    intro q w I2 J2 hq hw h1 h2 hfl
    have hq4 : q < 4 := by omega
    have ew := h1 hq4
    have h8 : base + q < 8 := by omega
    have go : ∃ Q1 : pw_Q, pe N X 92 [.ref 3, .int (Int32.ofNat s), .int (Int32.ofNat w)] (ev_hp I2 J2 R T) Q1 ∧ ∀ (r : Option Value) (h1 : ez_H), Q1 r h1 → pw N X 85 59 [.ref 3, .int (Int32.ofNat p), .int (Int32.ofNat tn), .int (Int32.ofNat s), .int (Int32.ofNat w), .int e, .int (Int32.ofNat q)] (r.toList ++ []) h1 Q := by
      refine ⟨_, pe_ne (K := base + q + 1) (sh := sh) hs hwr hW hH hw (by omega) (fun u hu => sp_Ms (by omega) hu) (fun u hu => ⟨base + q, by omega, by rw [← ew]; exact hu⟩) hfl, ?_⟩
      rintro r h ⟨rfl, I3, J3, rfl, h3⟩
      refine pw_p (bd_59 ⟨_, pe_is (ex_qt X I3 J3 R T hw), ?_⟩)
      rintro r h ⟨rfl, rfl⟩
      refine pw_p (bd_64 ?_)
      rw [io_1]
      refine ih (q + 1) _ I3 J3 (by omega) (pm_lt sg_lt w (by omega)) (fun h4 => ?_) (fun h4 => ?_) (fl_congr h3 fun u => ?_)
      · rw [ew, tn_q sh h8 (by omega) (by omega)]
        rfl
      · obtain rfl : q = 3 := by omega
        rw [ew]
      · rw [show base + (q + 1) = base + q + 1 by omega, sp_M1, ew]
    refine pw_p (bd_38 ⟨fun z => ⟨fun z2 => ?_, fun _ => go⟩, fun z => ⟨fun z2 => ?_, fun _ => go⟩⟩)
    · rw [show (4 : Int32) = Int32.ofNat 4 from rfl, io_le (by omega) (by omega)] at z2
      omega
    · rw [t0, Classical.not_not] at z
      rw [if_pos z] at hlim
      rw [show (1 : Int32) = Int32.ofNat 1 from rfl, io_le (by omega) (by omega)] at z2
      omega
theorem pe_build {N : Nat} (hs : s < 3) (h33 : I 3 3 = Int32.ofNat s) (hwr : I 1 5 = 0 ∨ I 1 5 = 1) (hW : 2 ≤ (I 1 3).toInt ∧ (I 1 3).toInt ≤ 6) (hH : 2 ≤ (I 1 4).toInt ∧ (I 1 4).toInt ≤ 6) (hp : sh < 65536) (htn : tn < 3) :
    pe N X 85 [.ref 3, .int (Int32.ofNat sh), .int (Int32.ofNat tn)] (ev_hp I J R T) (bd_Q I J R T s sh (sp_k tn)) := by
  have t2 : (Int32.ofNat tn = (2 : Int32)) ↔ tn = 2 := by
    rw [show (2 : Int32) = Int32.ofNat 2 from rfl, io_eq (by omega) (by omega)]
  have hlim : (if tn = 0 then 1 else 4) = if tn = 0 then 1 else 4 := rfl
  have fin : ∀ (w : Nat) (e : Int32) I2 J2, fl I J s (sp_M (I 1 3) (I 1 4) (I 1 5) sh (sp_k tn)) I2 J2 → pw N X 85 85 [.ref 3, .int (Int32.ofNat sh), .int (Int32.ofNat tn), .int (Int32.ofNat s), .int (Int32.ofNat w), .int e] [] (ev_hp I2 J2 R T) (bd_Q I J R T s sh (sp_k tn)) := by
    intro w e I2 J2 h
    refine pw_p (bd_85 ?_)
    rw [io_1]
    exact ⟨rfl, I2, J2, rfl, h⟩
  -- behind the second side, and behind the first
  have second : ∀ (w : Nat) I2 J2, w < 65536 → w = pm (rt 4) sh 16 → tn = 2 → fl I J s (sp_M (I 1 3) (I 1 4) (I 1 5) sh 4) I2 J2 → pw N X 85 20 [.ref 3, .int (Int32.ofNat sh), .int (Int32.ofNat tn), .int (Int32.ofNat s), .int (Int32.ofNat w), .int (1 : Int32)] [] (ev_hp I2 J2 R T) (bd_Q I J R T s sh (sp_k tn)) := by
    intro w I2 J2 hw ew h2 hfl
    refine pw_p (bd_20 ⟨fun z => absurd (t2.mpr h2) z, fun _ => ⟨fun z => absurd z (by decide), fun _ => ?_⟩⟩)
    refine bd_side (base := 4) hs hwr hW hH hp hlim htn (Or.inr rfl) N (fun w2 I3 J3 hw2 _ h3 => ?_) _ 0 w I2 J2 (Nat.zero_add _) hw (fun _ => ew) (fun h => by omega) hfl
    refine pw_p (bd_72 ⟨_, pe_is (ex_mi X I3 J3 R T hw2), ?_⟩)
    rintro r h ⟨rfl, rfl⟩
    refine pw_p (bd_77 ?_)
    refine pw_p (bd_20 ⟨fun z => absurd (t2.mpr h2) z, fun _ => ⟨fun _ => fin _ _ I3 J3 ?_, fun z => absurd (by decide) z⟩⟩)
    rw [show sp_k tn = 4 + (if tn = 0 then 1 else 4) by rw [h2]; rfl]
    exact h3
  refine pe_of (pw_p (bd_0 ?_))
  rw [h33, put_in hs (by omega)]
  have hfl0 : fl I J s (sp_M (I 1 3) (I 1 4) (I 1 5) sh 0) (ev_sI I 5 (upd (I 5) s (0 : Int32))) J := ⟨0, J 4, rfl, (fs_sJ_self J 4).symm, fun a b _ h => by omega, by omega, fun w => ⟨fun ⟨a, h, _⟩ => by omega, fun h => absurd h (sp_M0 w)⟩, fun _ _ => rfl⟩
  have first : pw N X 85 38 [.ref 3, .int (Int32.ofNat sh), .int (Int32.ofNat tn), .int (Int32.ofNat s), .int (Int32.ofNat sh), .int (0 : Int32), .int (0 : Int32)] [] (ev_hp (ev_sI I 5 (upd (I 5) s (0 : Int32))) J R T) (bd_Q I J R T s sh (sp_k tn)) := by
    refine bd_side (base := 0) hs hwr hW hH hp hlim htn (Or.inl rfl) N (fun w2 I3 J3 hw2 hw4 h3 => ?_) _ 0 sh _ J (Nat.zero_add _) hp (fun _ => (tn_0 hp).symm) (fun h => by omega) hfl0
    refine pw_p (bd_72 ⟨_, pe_is (ex_mi X I3 J3 R T hw2), ?_⟩)
    rintro r h ⟨rfl, rfl⟩
    refine pw_p (bd_77 ?_)
    by_cases h2 : tn = 2
    · have e4 : (if tn = 0 then 1 else 4) = 4 := by rw [if_neg (by omega)]
      rw [e4] at h3
      refine second _ I3 J3 (pm_lt ta_lt w2 (by omega)) ?_ h2 h3
      rw [hw4 e4]
      exact tn_m sh
    · refine pw_p (bd_20 ⟨fun _ => ⟨fun _ => fin _ _ I3 J3 ?_, fun z => absurd (by decide) z⟩, fun z => absurd (t2.mp (Classical.not_not.mp z)) h2⟩)
      rw [Nat.zero_add] at h3
      rw [show sp_k tn = (if tn = 0 then 1 else 4) by unfold sp_k; by_cases h0 : tn = 0 <;> simp [h0]; omega]
      exact h3
  refine pw_p (bd_20 ⟨fun _ => ⟨fun z => absurd z (by decide), fun _ => first⟩, fun _ => ⟨fun z => absurd z (by decide), fun _ => first⟩⟩)
end
end
section
/-! The reference: cells about a set. -/
section
variable {N : Nat} {X : ez_X} {I : Nat → Nat → Int32} {J : Nat → Nat → Int64} {R : Nat → Nat} {T : List ez_C} {Q : pw_Q} {cz kz : Nat}
set_option maxRecDepth 100000 in
theorem ab_r0 {a0 : Int64} {a1 : Int32} : ∀ G : ez_F, fx_up X 4 G 165 0 [.ref 35, .long a0, ez_fill, .int a1] [] (ev_hp I J R T) cz kz = G 165 6 [.ref 35, .long a0, ez_fill, .int a1, .long a0, ez_fill, .int (0 : Int32)] [] (ev_hp I J R T) cz kz := by
  intro G
  rfl
theorem ab_0 {z : Int64} {far : Int32}
    (H : pw N X 165 6 [.ref 35, .long z, ez_fill, .int far, .long z, ez_fill, .int (0 : Int32)] [] (ev_hp I J R T) Q) : pw (N + 1) X 165 0 [.ref 35, .long z, ez_fill, .int far] [] (ev_hp I J R T) Q := by
  refine pw_seg (by decide) (fun _ _ => ab_r0) ?_
  exact H
set_option maxRecDepth 100000 in
theorem ab_r1 {a0 : Int64} {a1 : Int32} {a2 : Int64} {a3 : Int32} : ∀ G : ez_F, fx_up X 3 G 165 6 [.ref 35, .long a0, ez_fill, .int a1, .long a2, ez_fill, .int a3] [] (ev_hp I J R T) cz kz = ev_C G 179 [.ref 35] (ev_hp I J R T) fun r h1 c1 k1 => G 165 12 [.ref 35, .long a0, ez_fill, .int a1, .long a2, ez_fill, .int a3] (r.toList ++ [.int a3]) h1 (cz + c1) (kz + k1) := by
  intro G
  rfl
set_option maxRecDepth 100000 in
theorem ab_r2 {a0 : Int64} {a1 : Int32} {a2 : Int64} {a3 : Int32} {a4 : Int32} {a5 : Int32} : ∀ G : ez_F, fx_up X 1 G 165 12 [.ref 35, .long a0, ez_fill, .int a1, .long a2, ez_fill, .int a3] [.int a4, .int a5] (ev_hp I J R T) cz kz = bif decide (a4 ≤ a5) then G 165 191 [.ref 35, .long a0, ez_fill, .int a1, .long a2, ez_fill, .int a3] [] (ev_hp I J R T) cz kz else G 165 15 [.ref 35, .long a0, ez_fill, .int a1, .long a2, ez_fill, .int a3] [] (ev_hp I J R T) cz kz := by
  intro G
  rfl
set_option maxRecDepth 100000 in
theorem ab_r3 {a0 : Int64} {a1 : Int32} {a2 : Int64} {a3 : Int32} : ∀ G : ez_F, fx_up X 2 G 165 191 [.ref 35, .long a0, ez_fill, .int a1, .long a2, ez_fill, .int a3] [] (ev_hp I J R T) cz kz = some (some (.long a2), (ev_hp I J R T), cz, kz) := by
  intro G
  rfl
set_option maxRecDepth 100000 in
theorem ab_r4 {a0 : Int64} {a1 : Int32} {a2 : Int64} {a3 : Int32} : ∀ G : ez_F, fx_up X 2 G 165 15 [.ref 35, .long a0, ez_fill, .int a1, .long a2, ez_fill, .int a3] [] (ev_hp I J R T) cz kz = bif decide (a1 ≤ (0 : Int32)) then G 165 191 [.ref 35, .long a0, ez_fill, .int a1, .long a2, ez_fill, .int a3] [] (ev_hp I J R T) cz kz else G 165 19 [.ref 35, .long a0, ez_fill, .int a1, .long a2, ez_fill, .int a3] [] (ev_hp I J R T) cz kz := by
  intro G
  rfl
set_option maxRecDepth 100000 in
theorem ab_r5 {a0 : Int64} {a1 : Int32} {a2 : Int64} {a3 : Int32} : ∀ G : ez_F, fx_up X 3 G 165 19 [.ref 35, .long a0, ez_fill, .int a1, .long a2, ez_fill, .int a3] [] (ev_hp I J R T) cz kz = ev_C G 197 [.long a0, .int a3] (ev_hp I J R T) fun r h1 c1 k1 => G 165 25 [.ref 35, .long a0, ez_fill, .int a1, .long a2, ez_fill, .int a3] (r.toList ++ []) h1 (cz + c1) (kz + k1) := by
  intro G
  rfl
set_option maxRecDepth 100000 in
theorem ab_r6 {a0 : Int64} {a1 : Int32} {a2 : Int64} {a3 : Int32} {a4 : Int32} : ∀ G : ez_F, fx_up X 1 G 165 25 [.ref 35, .long a0, ez_fill, .int a1, .long a2, ez_fill, .int a3] [.int a4] (ev_hp I J R T) cz kz = bif decide (a4 = (0 : Int32)) then G 165 185 [.ref 35, .long a0, ez_fill, .int a1, .long a2, ez_fill, .int a3] [] (ev_hp I J R T) cz kz else G 165 28 [.ref 35, .long a0, ez_fill, .int a1, .long a2, ez_fill, .int a3] [] (ev_hp I J R T) cz kz := by
  intro G
  rfl
set_option maxRecDepth 100000 in
theorem ab_r7 {a0 : Int64} {a1 : Int32} {a2 : Int64} {a3 : Int32} : ∀ G : ez_F, fx_up X 2 G 165 28 [.ref 35, .long a0, ez_fill, .int a1, .long a2, ez_fill, .int a3] [] (ev_hp I J R T) cz kz = G 165 31 [.ref 35, .long a0, ez_fill, .int a1, .long a2, ez_fill, .int a3, .int (0 : Int32)] [] (ev_hp I J R T) cz kz := by
  intro G
  rfl
theorem ab_6 {z y : Int64} {far c : Int32}
    (H : ((((I 35 0) * (I 35 1)) ≤ c → Q (some (.long y)) (ev_hp I J R T)) ∧ (¬ (((I 35 0) * (I 35 1)) ≤ c) → ((far ≤ (0 : Int32) → Q (some (.long y)) (ev_hp I J R T)) ∧ (¬ (far ≤ (0 : Int32)) → (((ev_has z c) = (0 : Int32) → pw N X 165 185 [.ref 35, .long z, ez_fill, .int far, .long y, ez_fill, .int c] [] (ev_hp I J R T) Q) ∧ (¬ ((ev_has z c) = (0 : Int32)) → pw N X 165 31 [.ref 35, .long z, ez_fill, .int far, .long y, ez_fill, .int c, .int (0 : Int32)] [] (ev_hp I J R T) Q))))))) : pw (N + 1) X 165 6 [.ref 35, .long z, ez_fill, .int far, .long y, ez_fill, .int c] [] (ev_hp I J R T) Q := by
  refine pw_callp (by decide) (fun _ _ => ab_r1) (pe_is (eh_cells _ _ _ _ _)) ?_
  refine pw_p (pw_if (by decide) (fun _ _ => ab_r2) (fun w1 => ?_) (fun w1 => ?_))
  · have h1 := H.1 w1
    exact pw_p (pw_ret (by decide) (fun _ _ => ab_r3) h1)
  · have h1 := H.2 w1
    refine pw_p (pw_if (by decide) (fun _ _ => ab_r4) (fun w2 => ?_) (fun w2 => ?_))
    · have h2 := h1.1 w2
      exact pw_p (pw_ret (by decide) (fun _ _ => ab_r3) h2)
    · have h2 := h1.2 w2
      refine pw_p (pw_callp (by decide) (fun _ _ => ab_r5) (pe_is (em_has _ _ _ _)) ?_)
      refine pw_p (pw_if (by decide) (fun _ _ => ab_r6) (fun w3 => ?_) (fun w3 => ?_))
      · have h3 := h2.1 w3
        exact h3
      · have h3 := h2.2 w3
        refine pw_p (pw_seg (by decide) (fun _ _ => ab_r7) ?_)
        exact h3
set_option maxRecDepth 100000 in
theorem ab_r8 {a0 : Int64} {a1 : Int32} {a2 : Int64} {a3 : Int32} {a4 : Int32} : ∀ G : ez_F, fx_up X 3 G 165 31 [.ref 35, .long a0, ez_fill, .int a1, .long a2, ez_fill, .int a3, .int a4] [] (ev_hp I J R T) cz kz = bif decide ((9 : Int32) ≤ a4) then G 165 185 [.ref 35, .long a0, ez_fill, .int a1, .long a2, ez_fill, .int a3, .int a4] [] (ev_hp I J R T) cz kz else G 165 38 [.ref 35, .long a0, ez_fill, .int a1, .long a2, ez_fill, .int a3, .int a4] [] (ev_hp I J R T) cz kz := by
  intro G
  rfl
set_option maxRecDepth 100000 in
theorem ab_r9 {a0 : Int64} {a1 : Int32} {a2 : Int64} {a3 : Int32} {a4 : Int32} : ∀ G : ez_F, fx_up X 2 G 165 38 [.ref 35, .long a0, ez_fill, .int a1, .long a2, ez_fill, .int a3, .int a4] [] (ev_hp I J R T) cz kz = G 165 41 [.ref 35, .long a0, ez_fill, .int a1, .long a2, ez_fill, .int a3, .int a4] [.int (3 : Int32), .int a4] (ev_hp I J R T) cz kz := by
  intro G
  rfl
set_option maxRecDepth 100000 in
theorem ab_r10 {a0 : Int64} {a1 : Int32} {a2 : Int64} {a3 : Int32} {a4 : Int32} {a5 : Int32} : ∀ G : ez_F, fx_up X 5 G 165 42 [.ref 35, .long a0, ez_fill, .int a1, .long a2, ez_fill, .int a3, .int a4] [.int a5] (ev_hp I J R T) cz kz = G 165 49 [.ref 35, .long a0, ez_fill, .int a1, .long a2, ez_fill, .int a3, .int a4, .int (a5 - (1 : Int32))] [.int (3 : Int32), .int a4] (ev_hp I J R T) cz kz := by
  intro G
  rfl
set_option maxRecDepth 100000 in
theorem ab_r11 {a0 : Int64} {a1 : Int32} {a2 : Int64} {a3 : Int32} {a4 : Int32} {a5 : Int32} {a6 : Int32} : ∀ G : ez_F, fx_up X 6 G 165 50 [.ref 35, .long a0, ez_fill, .int a1, .long a2, ez_fill, .int a3, .int a4, .int a5] [.int a6] (ev_hp I J R T) cz kz = G 165 60 [.ref 35, .long a0, ez_fill, .int a1, .long a2, ez_fill, .int a3, .int a4, .int a5, .int (a6 - (1 : Int32))] [.int (I 35 0), .int a3] (ev_hp I J R T) cz kz := by
  intro G
  rfl
set_option maxRecDepth 100000 in
theorem ab_r12 {a0 : Int64} {a1 : Int32} {a2 : Int64} {a3 : Int32} {a4 : Int32} {a5 : Int32} {a6 : Int32} {a7 : Int32} : ∀ G : ez_F, fx_up X 6 G 165 61 [.ref 35, .long a0, ez_fill, .int a1, .long a2, ez_fill, .int a3, .int a4, .int a5, .int a6] [.int a7] (ev_hp I J R T) cz kz = G 165 72 [.ref 35, .long a0, ez_fill, .int a1, .long a2, ez_fill, .int a3, .int a4, .int a5, .int a6, .int (a7 + a5)] [.int (I 35 0), .int a3] (ev_hp I J R T) cz kz := by
  intro G
  rfl
set_option maxRecDepth 100000 in
theorem ab_r13 {a0 : Int64} {a1 : Int32} {a2 : Int64} {a3 : Int32} {a4 : Int32} {a5 : Int32} {a6 : Int32} {a7 : Int32} {a8 : Int32} : ∀ G : ez_F, fx_up X 5 G 165 73 [.ref 35, .long a0, ez_fill, .int a1, .long a2, ez_fill, .int a3, .int a4, .int a5, .int a6, .int a7] [.int a8] (ev_hp I J R T) cz kz = G 165 82 [.ref 35, .long a0, ez_fill, .int a1, .long a2, ez_fill, .int a3, .int a4, .int a5, .int a6, .int a7, .int (a8 + a6)] [.int (I 35 2)] (ev_hp I J R T) cz kz := by
  intro G
  rfl
set_option maxRecDepth 100000 in
theorem ab_r14 {a0 : Int64} {a1 : Int32} {a2 : Int64} {a3 : Int32} {a4 : Int32} {a5 : Int32} {a6 : Int32} {a7 : Int32} {a8 : Int32} {a9 : Int32} : ∀ G : ez_F, fx_up X 1 G 165 82 [.ref 35, .long a0, ez_fill, .int a1, .long a2, ez_fill, .int a3, .int a4, .int a5, .int a6, .int a7, .int a8] [.int a9] (ev_hp I J R T) cz kz = bif decide (a9 = (0 : Int32)) then G 165 113 [.ref 35, .long a0, ez_fill, .int a1, .long a2, ez_fill, .int a3, .int a4, .int a5, .int a6, .int a7, .int a8] [] (ev_hp I J R T) cz kz else G 165 85 [.ref 35, .long a0, ez_fill, .int a1, .long a2, ez_fill, .int a3, .int a4, .int a5, .int a6, .int a7, .int a8] [] (ev_hp I J R T) cz kz := by
  intro G
  rfl
set_option maxRecDepth 100000 in
theorem ab_r15 {a0 : Int64} {a1 : Int32} {a2 : Int64} {a3 : Int32} {a4 : Int32} {a5 : Int32} {a6 : Int32} {a7 : Int32} {a8 : Int32} : ∀ G : ez_F, fx_up X 3 G 165 85 [.ref 35, .long a0, ez_fill, .int a1, .long a2, ez_fill, .int a3, .int a4, .int a5, .int a6, .int a7, .int a8] [] (ev_hp I J R T) cz kz = G 165 91 [.ref 35, .long a0, ez_fill, .int a1, .long a2, ez_fill, .int a3, .int a4, .int a5, .int a6, .int a7, .int a8] [.int (I 35 0), .int a7] (ev_hp I J R T) cz kz := by
  intro G
  rfl
set_option maxRecDepth 100000 in
theorem ab_r16 {a0 : Int64} {a1 : Int32} {a2 : Int64} {a3 : Int32} {a4 : Int32} {a5 : Int32} {a6 : Int32} {a7 : Int32} {a8 : Int32} {a9 : Int32} {a10 : Int32} : ∀ G : ez_F, fx_up X 3 G 165 91 [.ref 35, .long a0, ez_fill, .int a1, .long a2, ez_fill, .int a3, .int a4, .int a5, .int a6, .int a7, .int a8] [.int a9, .int a10] (ev_hp I J R T) cz kz = G 165 96 [.ref 35, .long a0, ez_fill, .int a1, .long a2, ez_fill, .int a3, .int a4, .int a5, .int a6, .int a7, .int a8] [.int (I 35 0), .int (a10 + a9)] (ev_hp I J R T) cz kz := by
  intro G
  rfl
set_option maxRecDepth 100000 in
theorem ab_r17 {a0 : Int64} {a1 : Int32} {a2 : Int64} {a3 : Int32} {a4 : Int32} {a5 : Int32} {a6 : Int32} {a7 : Int32} {a8 : Int32} {a9 : Int32} : ∀ G : ez_F, fx_up X 4 G 165 97 [.ref 35, .long a0, ez_fill, .int a1, .long a2, ez_fill, .int a3, .int a4, .int a5, .int a6, .int a7, .int a8] [.int a9] (ev_hp I J R T) cz kz = G 165 105 [.ref 35, .long a0, ez_fill, .int a1, .long a2, ez_fill, .int a3, .int a4, .int a5, .int a6, .int a9, .int a8] [.int (I 35 1), .int a8] (ev_hp I J R T) cz kz := by
  intro G
  rfl
set_option maxRecDepth 100000 in
theorem ab_r18 {a0 : Int64} {a1 : Int32} {a2 : Int64} {a3 : Int32} {a4 : Int32} {a5 : Int32} {a6 : Int32} {a7 : Int32} {a8 : Int32} {a9 : Int32} {a10 : Int32} : ∀ G : ez_F, fx_up X 3 G 165 105 [.ref 35, .long a0, ez_fill, .int a1, .long a2, ez_fill, .int a3, .int a4, .int a5, .int a6, .int a7, .int a8] [.int a9, .int a10] (ev_hp I J R T) cz kz = G 165 110 [.ref 35, .long a0, ez_fill, .int a1, .long a2, ez_fill, .int a3, .int a4, .int a5, .int a6, .int a7, .int a8] [.int (I 35 1), .int (a10 + a9)] (ev_hp I J R T) cz kz := by
  intro G
  rfl
set_option maxRecDepth 100000 in
theorem ab_r19 {a0 : Int64} {a1 : Int32} {a2 : Int64} {a3 : Int32} {a4 : Int32} {a5 : Int32} {a6 : Int32} {a7 : Int32} {a8 : Int32} {a9 : Int32} : ∀ G : ez_F, fx_up X 1 G 165 111 [.ref 35, .long a0, ez_fill, .int a1, .long a2, ez_fill, .int a3, .int a4, .int a5, .int a6, .int a7, .int a8] [.int a9] (ev_hp I J R T) cz kz = G 165 113 [.ref 35, .long a0, ez_fill, .int a1, .long a2, ez_fill, .int a3, .int a4, .int a5, .int a6, .int a7, .int a9] [] (ev_hp I J R T) cz kz := by
  intro G
  rfl
theorem ab_31 {z y : Int64} {far c k : Int32}
    (H : (((9 : Int32) ≤ k → pw N X 165 185 [.ref 35, .long z, ez_fill, .int far, .long y, ez_fill, .int c] [] (ev_hp I J R T) Q) ∧ (¬ ((9 : Int32) ≤ k) → (¬ (3 : Int32) = 0 → (¬ (3 : Int32) = 0 → (¬ (I 35 0) = 0 → (¬ (I 35 0) = 0 → (((I 35 2) = (0 : Int32) → pw N X 165 113 [.ref 35, .long z, ez_fill, .int far, .long y, ez_fill, .int c, .int k, .int ((k - k / (3 : Int32) * (3 : Int32)) - (1 : Int32)), .int ((k / (3 : Int32)) - (1 : Int32)), .int ((c - c / (I 35 0) * (I 35 0)) + ((k - k / (3 : Int32) * (3 : Int32)) - (1 : Int32))), .int ((c / (I 35 0)) + ((k / (3 : Int32)) - (1 : Int32)))] [] (ev_hp I J R T) Q) ∧ (¬ ((I 35 2) = (0 : Int32)) → (¬ (I 35 0) = 0 → (¬ (I 35 1) = 0 → pw N X 165 113 [.ref 35, .long z, ez_fill, .int far, .long y, ez_fill, .int c, .int k, .int ((k - k / (3 : Int32) * (3 : Int32)) - (1 : Int32)), .int ((k / (3 : Int32)) - (1 : Int32)), .int ((((c - c / (I 35 0) * (I 35 0)) + ((k - k / (3 : Int32) * (3 : Int32)) - (1 : Int32))) + (I 35 0)) - (((c - c / (I 35 0) * (I 35 0)) + ((k - k / (3 : Int32) * (3 : Int32)) - (1 : Int32))) + (I 35 0)) / (I 35 0) * (I 35 0)), .int ((((c / (I 35 0)) + ((k / (3 : Int32)) - (1 : Int32))) + (I 35 1)) - (((c / (I 35 0)) + ((k / (3 : Int32)) - (1 : Int32))) + (I 35 1)) / (I 35 1) * (I 35 1))] [] (ev_hp I J R T) Q))))))))))) : pw (N + 1) X 165 31 [.ref 35, .long z, ez_fill, .int far, .long y, ez_fill, .int c, .int k] [] (ev_hp I J R T) Q := by
  refine pw_if (by decide) (fun _ _ => ab_r8) (fun w1 => ?_) (fun w1 => ?_)
  · have h1 := H.1 w1
    refine pw_cutl (by rfl) ?_
    exact h1
  · have h1 := H.2 w1
    refine pw_p (pw_seg (by decide) (fun _ _ => ab_r9) ?_)
    refine pw_p (pw_irem (by rfl) (fun w2 => ?_))
    have h2 := h1 w2
    refine pw_p (pw_seg (by decide) (fun _ _ => ab_r10) ?_)
    refine pw_p (pw_idiv (by rfl) (fun w2 => ?_))
    have h2 := h2 w2
    refine pw_p (pw_seg (by decide) (fun _ _ => ab_r11) ?_)
    refine pw_p (pw_irem (by rfl) (fun w2 => ?_))
    have h2 := h2 w2
    refine pw_p (pw_seg (by decide) (fun _ _ => ab_r12) ?_)
    refine pw_p (pw_idiv (by rfl) (fun w2 => ?_))
    have h2 := h2 w2
    refine pw_p (pw_seg (by decide) (fun _ _ => ab_r13) ?_)
    refine pw_p (pw_if (by decide) (fun _ _ => ab_r14) (fun w2 => ?_) (fun w2 => ?_))
    · have h2 := h2.1 w2
      exact h2
    · have h2 := h2.2 w2
      refine pw_p (pw_seg (by decide) (fun _ _ => ab_r15) ?_)
      refine pw_p (pw_seg (by decide) (fun _ _ => ab_r16) ?_)
      refine pw_p (pw_irem (by rfl) (fun w3 => ?_))
      have h3 := h2 w3
      refine pw_p (pw_seg (by decide) (fun _ _ => ab_r17) ?_)
      refine pw_p (pw_seg (by decide) (fun _ _ => ab_r18) ?_)
      refine pw_p (pw_irem (by rfl) (fun w3 => ?_))
      have h3 := h3 w3
      refine pw_p (pw_seg (by decide) (fun _ _ => ab_r19) ?_)
      exact h3
set_option maxRecDepth 100000 in
theorem ab_r20 {a0 : Int64} {a1 : Int32} {a2 : Int64} {a3 : Int32} {a4 : Int32} {a5 : Int32} {a6 : Int32} {a7 : Int32} {a8 : Int32} : ∀ G : ez_F, fx_up X 5 G 165 113 [.ref 35, .long a0, ez_fill, .int a1, .long a2, ez_fill, .int a3, .int a4, .int a5, .int a6, .int a7, .int a8] [] (ev_hp I J R T) cz kz = G 165 121 [.ref 35, .long a0, ez_fill, .int a1, .long a2, ez_fill, .int a3, .int a4, .int a5, .int a6, .int a7, .int a8] [.int (I 35 0), .long (0 : Int64), .long a7.toInt64] (ev_hp I J R T) cz kz := by
  intro G
  rfl
set_option maxRecDepth 100000 in
theorem ab_r21 {a0 : Int64} {a1 : Int32} {a2 : Int64} {a3 : Int32} {a4 : Int32} {a5 : Int32} {a6 : Int32} {a7 : Int32} {a8 : Int32} {a9 : Int32} {a10 : Int64} {a11 : Int64} : ∀ G : ez_F, fx_up X 4 G 165 121 [.ref 35, .long a0, ez_fill, .int a1, .long a2, ez_fill, .int a3, .int a4, .int a5, .int a6, .int a7, .int a8] [.int a9, .long a10, .long a11] (ev_hp I J R T) cz kz = ev_C G 198 [.long a11, .long a10, .long (a9 - (1 : Int32)).toInt64] (ev_hp I J R T) fun r h1 c1 k1 => G 165 127 [.ref 35, .long a0, ez_fill, .int a1, .long a2, ez_fill, .int a3, .int a4, .int a5, .int a6, .int a7, .int a8] (r.toList ++ []) h1 (cz + c1) (kz + k1) := by
  intro G
  rfl
set_option maxRecDepth 100000 in
theorem ab_r22 {a0 : Int64} {a1 : Int32} {a2 : Int64} {a3 : Int32} {a4 : Int32} {a5 : Int32} {a6 : Int32} {a7 : Int32} {a8 : Int32} {a9 : Int32} : ∀ G : ez_F, fx_up X 1 G 165 127 [.ref 35, .long a0, ez_fill, .int a1, .long a2, ez_fill, .int a3, .int a4, .int a5, .int a6, .int a7, .int a8] [.int a9] (ev_hp I J R T) cz kz = bif decide (a9 = (0 : Int32)) then G 165 179 [.ref 35, .long a0, ez_fill, .int a1, .long a2, ez_fill, .int a3, .int a4, .int a5, .int a6, .int a7, .int a8] [] (ev_hp I J R T) cz kz else G 165 130 [.ref 35, .long a0, ez_fill, .int a1, .long a2, ez_fill, .int a3, .int a4, .int a5, .int a6, .int a7, .int a8] [] (ev_hp I J R T) cz kz := by
  intro G
  rfl
set_option maxRecDepth 100000 in
theorem ab_r23 {a0 : Int64} {a1 : Int32} {a2 : Int64} {a3 : Int32} {a4 : Int32} {a5 : Int32} {a6 : Int32} {a7 : Int32} {a8 : Int32} : ∀ G : ez_F, fx_up X 5 G 165 130 [.ref 35, .long a0, ez_fill, .int a1, .long a2, ez_fill, .int a3, .int a4, .int a5, .int a6, .int a7, .int a8] [] (ev_hp I J R T) cz kz = G 165 138 [.ref 35, .long a0, ez_fill, .int a1, .long a2, ez_fill, .int a3, .int a4, .int a5, .int a6, .int a7, .int a8] [.int (I 35 1), .long (0 : Int64), .long a8.toInt64] (ev_hp I J R T) cz kz := by
  intro G
  rfl
set_option maxRecDepth 100000 in
theorem ab_r24 {a0 : Int64} {a1 : Int32} {a2 : Int64} {a3 : Int32} {a4 : Int32} {a5 : Int32} {a6 : Int32} {a7 : Int32} {a8 : Int32} {a9 : Int32} {a10 : Int64} {a11 : Int64} : ∀ G : ez_F, fx_up X 4 G 165 138 [.ref 35, .long a0, ez_fill, .int a1, .long a2, ez_fill, .int a3, .int a4, .int a5, .int a6, .int a7, .int a8] [.int a9, .long a10, .long a11] (ev_hp I J R T) cz kz = ev_C G 198 [.long a11, .long a10, .long (a9 - (1 : Int32)).toInt64] (ev_hp I J R T) fun r h1 c1 k1 => G 165 144 [.ref 35, .long a0, ez_fill, .int a1, .long a2, ez_fill, .int a3, .int a4, .int a5, .int a6, .int a7, .int a8] (r.toList ++ []) h1 (cz + c1) (kz + k1) := by
  intro G
  rfl
set_option maxRecDepth 100000 in
theorem ab_r25 {a0 : Int64} {a1 : Int32} {a2 : Int64} {a3 : Int32} {a4 : Int32} {a5 : Int32} {a6 : Int32} {a7 : Int32} {a8 : Int32} {a9 : Int32} : ∀ G : ez_F, fx_up X 1 G 165 144 [.ref 35, .long a0, ez_fill, .int a1, .long a2, ez_fill, .int a3, .int a4, .int a5, .int a6, .int a7, .int a8] [.int a9] (ev_hp I J R T) cz kz = bif decide (a9 = (0 : Int32)) then G 165 179 [.ref 35, .long a0, ez_fill, .int a1, .long a2, ez_fill, .int a3, .int a4, .int a5, .int a6, .int a7, .int a8] [] (ev_hp I J R T) cz kz else G 165 147 [.ref 35, .long a0, ez_fill, .int a1, .long a2, ez_fill, .int a3, .int a4, .int a5, .int a6, .int a7, .int a8] [] (ev_hp I J R T) cz kz := by
  intro G
  rfl
set_option maxRecDepth 100000 in
theorem ab_r26 {a0 : Int64} {a1 : Int32} {a2 : Int64} {a3 : Int32} {a4 : Int32} {a5 : Int32} {a6 : Int32} {a7 : Int32} {a8 : Int32} : ∀ G : ez_F, fx_up X 3 G 165 147 [.ref 35, .long a0, ez_fill, .int a1, .long a2, ez_fill, .int a3, .int a4, .int a5, .int a6, .int a7, .int a8] [] (ev_hp I J R T) cz kz = bif decide (a1 = (2 : Int32)) then G 165 162 [.ref 35, .long a0, ez_fill, .int a1, .long a2, ez_fill, .int a3, .int a4, .int a5, .int a6, .int a7, .int a8] [] (ev_hp I J R T) cz kz else G 165 152 [.ref 35, .long a0, ez_fill, .int a1, .long a2, ez_fill, .int a3, .int a4, .int a5, .int a6, .int a7, .int a8] [] (ev_hp I J R T) cz kz := by
  intro G
  rfl
set_option maxRecDepth 100000 in
theorem ab_r27 {a0 : Int64} {a1 : Int32} {a2 : Int64} {a3 : Int32} {a4 : Int32} {a5 : Int32} {a6 : Int32} {a7 : Int32} {a8 : Int32} : ∀ G : ez_F, fx_up X 4 G 165 162 [.ref 35, .long a0, ez_fill, .int a1, .long a2, ez_fill, .int a3, .int a4, .int a5, .int a6, .int a7, .int a8] [] (ev_hp I J R T) cz kz = G 165 169 [.ref 35, .long a0, ez_fill, .int a1, .long a2, ez_fill, .int a3, .int a4, .int a5, .int a6, .int a7, .int a8] [.int (I 35 0), .long (1 : Int64), .long a2] (ev_hp I J R T) cz kz := by
  intro G
  rfl
set_option maxRecDepth 100000 in
theorem ab_r28 {a0 : Int64} {a1 : Int32} {a2 : Int64} {a3 : Int32} {a4 : Int32} {a5 : Int32} {a6 : Int32} {a7 : Int32} {a8 : Int32} {a9 : Int32} {a10 : Int64} {a11 : Int64} : ∀ G : ez_F, fx_up X 7 G 165 169 [.ref 35, .long a0, ez_fill, .int a1, .long a2, ez_fill, .int a3, .int a4, .int a5, .int a6, .int a7, .int a8] [.int a9, .long a10, .long a11] (ev_hp I J R T) cz kz = G 165 179 [.ref 35, .long a0, ez_fill, .int a1, .long (a11 ||| (a10 <<< (((a9 * a8) + a7).toInt64 &&& (63 : Int64)))), ez_fill, .int a3, .int a4, .int a5, .int a6, .int a7, .int a8] [] (ev_hp I J R T) cz kz := by
  intro G
  rfl
set_option maxRecDepth 100000 in
theorem ab_r29 {a0 : Int64} {a1 : Int32} {a2 : Int64} {a3 : Int32} {a4 : Int32} {a5 : Int32} {a6 : Int32} {a7 : Int32} {a8 : Int32} : ∀ G : ez_F, fx_up X 2 G 165 152 [.ref 35, .long a0, ez_fill, .int a1, .long a2, ez_fill, .int a3, .int a4, .int a5, .int a6, .int a7, .int a8] [] (ev_hp I J R T) cz kz = bif decide (a5 = (0 : Int32)) then G 165 162 [.ref 35, .long a0, ez_fill, .int a1, .long a2, ez_fill, .int a3, .int a4, .int a5, .int a6, .int a7, .int a8] [] (ev_hp I J R T) cz kz else G 165 157 [.ref 35, .long a0, ez_fill, .int a1, .long a2, ez_fill, .int a3, .int a4, .int a5, .int a6, .int a7, .int a8] [] (ev_hp I J R T) cz kz := by
  intro G
  rfl
set_option maxRecDepth 100000 in
theorem ab_r30 {a0 : Int64} {a1 : Int32} {a2 : Int64} {a3 : Int32} {a4 : Int32} {a5 : Int32} {a6 : Int32} {a7 : Int32} {a8 : Int32} : ∀ G : ez_F, fx_up X 2 G 165 157 [.ref 35, .long a0, ez_fill, .int a1, .long a2, ez_fill, .int a3, .int a4, .int a5, .int a6, .int a7, .int a8] [] (ev_hp I J R T) cz kz = bif decide (¬ a6 = (0 : Int32)) then G 165 179 [.ref 35, .long a0, ez_fill, .int a1, .long a2, ez_fill, .int a3, .int a4, .int a5, .int a6, .int a7, .int a8] [] (ev_hp I J R T) cz kz else G 165 162 [.ref 35, .long a0, ez_fill, .int a1, .long a2, ez_fill, .int a3, .int a4, .int a5, .int a6, .int a7, .int a8] [] (ev_hp I J R T) cz kz := by
  intro G
  rfl
theorem ab_113 {z y : Int64} {far c k d1 d2 d3 d4 : Int32}
    (H : (((ev_il d3.toInt64 (0 : Int64) (((I 35 0) - (1 : Int32)).toInt64)) = (0 : Int32) → pw N X 165 179 [.ref 35, .long z, ez_fill, .int far, .long y, ez_fill, .int c, .int k, .int d1, .int d2, .int d3, .int d4] [] (ev_hp I J R T) Q) ∧ (¬ ((ev_il d3.toInt64 (0 : Int64) (((I 35 0) - (1 : Int32)).toInt64)) = (0 : Int32)) → (((ev_il d4.toInt64 (0 : Int64) (((I 35 1) - (1 : Int32)).toInt64)) = (0 : Int32) → pw N X 165 179 [.ref 35, .long z, ez_fill, .int far, .long y, ez_fill, .int c, .int k, .int d1, .int d2, .int d3, .int d4] [] (ev_hp I J R T) Q) ∧ (¬ ((ev_il d4.toInt64 (0 : Int64) (((I 35 1) - (1 : Int32)).toInt64)) = (0 : Int32)) → ((far = (2 : Int32) → pw N X 165 179 [.ref 35, .long z, ez_fill, .int far, .long (y ||| ((1 : Int64) <<< ((((I 35 0) * d4) + d3).toInt64 &&& (63 : Int64)))), ez_fill, .int c, .int k, .int d1, .int d2, .int d3, .int d4] [] (ev_hp I J R T) Q) ∧ (¬ (far = (2 : Int32)) → ((d1 = (0 : Int32) → pw N X 165 179 [.ref 35, .long z, ez_fill, .int far, .long (y ||| ((1 : Int64) <<< ((((I 35 0) * d4) + d3).toInt64 &&& (63 : Int64)))), ez_fill, .int c, .int k, .int d1, .int d2, .int d3, .int d4] [] (ev_hp I J R T) Q) ∧ (¬ (d1 = (0 : Int32)) → ((¬ d2 = (0 : Int32) → pw N X 165 179 [.ref 35, .long z, ez_fill, .int far, .long y, ez_fill, .int c, .int k, .int d1, .int d2, .int d3, .int d4] [] (ev_hp I J R T) Q) ∧ (¬ (¬ d2 = (0 : Int32)) → pw N X 165 179 [.ref 35, .long z, ez_fill, .int far, .long (y ||| ((1 : Int64) <<< ((((I 35 0) * d4) + d3).toInt64 &&& (63 : Int64)))), ez_fill, .int c, .int k, .int d1, .int d2, .int d3, .int d4] [] (ev_hp I J R T) Q))))))))))) : pw (N + 1) X 165 113 [.ref 35, .long z, ez_fill, .int far, .long y, ez_fill, .int c, .int k, .int d1, .int d2, .int d3, .int d4] [] (ev_hp I J R T) Q := by
  refine pw_seg (by decide) (fun _ _ => ab_r20) ?_
  refine pw_p (pw_callp (by decide) (fun _ _ => ab_r21) (pe_is (ec_in _ _ _ _ _)) ?_)
  refine pw_p (pw_if (by decide) (fun _ _ => ab_r22) (fun w1 => ?_) (fun w1 => ?_))
  · have h1 := H.1 w1
    exact h1
  · have h1 := H.2 w1
    refine pw_p (pw_seg (by decide) (fun _ _ => ab_r23) ?_)
    refine pw_p (pw_callp (by decide) (fun _ _ => ab_r24) (pe_is (ec_in _ _ _ _ _)) ?_)
    refine pw_p (pw_if (by decide) (fun _ _ => ab_r25) (fun w2 => ?_) (fun w2 => ?_))
    · have h2 := h1.1 w2
      exact h2
    · have h2 := h1.2 w2
      refine pw_p (pw_if (by decide) (fun _ _ => ab_r26) (fun w3 => ?_) (fun w3 => ?_))
      · have h3 := h2.1 w3
        refine pw_p (pw_seg (by decide) (fun _ _ => ab_r27) ?_)
        refine pw_p (pw_seg (by decide) (fun _ _ => ab_r28) ?_)
        exact h3
      · have h3 := h2.2 w3
        refine pw_p (pw_if (by decide) (fun _ _ => ab_r29) (fun w4 => ?_) (fun w4 => ?_))
        · have h4 := h3.1 w4
          refine pw_p (pw_seg (by decide) (fun _ _ => ab_r27) ?_)
          refine pw_p (pw_seg (by decide) (fun _ _ => ab_r28) ?_)
          exact h4
        · have h4 := h3.2 w4
          refine pw_p (pw_if (by decide) (fun _ _ => ab_r30) (fun w5 => ?_) (fun w5 => ?_))
          · have h5 := h4.1 w5
            exact h5
          · have h5 := h4.2 w5
            refine pw_p (pw_seg (by decide) (fun _ _ => ab_r27) ?_)
            refine pw_p (pw_seg (by decide) (fun _ _ => ab_r28) ?_)
            exact h5
set_option maxRecDepth 100000 in
theorem ab_r31 {a0 : Int64} {a1 : Int32} {a2 : Int64} {a3 : Int32} {a4 : Int32} {a5 : Int32} {a6 : Int32} {a7 : Int32} {a8 : Int32} : ∀ G : ez_F, fx_up X 2 G 165 179 [.ref 35, .long a0, ez_fill, .int a1, .long a2, ez_fill, .int a3, .int a4, .int a5, .int a6, .int a7, .int a8] [] (ev_hp I J R T) cz kz = G 165 31 [.ref 35, .long a0, ez_fill, .int a1, .long a2, ez_fill, .int a3, .int (a4 + (1 : Int32)), .int a5, .int a6, .int a7, .int a8] [] (ev_hp I J R T) cz kz := by
  intro G
  rfl
theorem ab_179 {z y : Int64} {far c k d1 d2 d3 d4 : Int32}
    (H : pw N X 165 31 [.ref 35, .long z, ez_fill, .int far, .long y, ez_fill, .int c, .int (k + (1 : Int32))] [] (ev_hp I J R T) Q) : pw (N + 1) X 165 179 [.ref 35, .long z, ez_fill, .int far, .long y, ez_fill, .int c, .int k, .int d1, .int d2, .int d3, .int d4] [] (ev_hp I J R T) Q := by
  refine pw_seg (by decide) (fun _ _ => ab_r31) ?_
  refine pw_cutl (by rfl) ?_
  exact H
set_option maxRecDepth 100000 in
theorem ab_r32 {a0 : Int64} {a1 : Int32} {a2 : Int64} {a3 : Int32} : ∀ G : ez_F, fx_up X 2 G 165 185 [.ref 35, .long a0, ez_fill, .int a1, .long a2, ez_fill, .int a3] [] (ev_hp I J R T) cz kz = G 165 6 [.ref 35, .long a0, ez_fill, .int a1, .long a2, ez_fill, .int (a3 + (1 : Int32))] [] (ev_hp I J R T) cz kz := by
  intro G
  rfl
theorem ab_185 {z y : Int64} {far c : Int32}
    (H : pw N X 165 6 [.ref 35, .long z, ez_fill, .int far, .long y, ez_fill, .int (c + (1 : Int32))] [] (ev_hp I J R T) Q) : pw (N + 1) X 165 185 [.ref 35, .long z, ez_fill, .int far, .long y, ez_fill, .int c] [] (ev_hp I J R T) Q := by
  refine pw_seg (by decide) (fun _ _ => ab_r32) ?_
  exact H
end
noncomputable def ab_x (W wr v : Int32) : Int32 := if wr = 0 then v else (v + W) - (v + W) / W * W
noncomputable def ab_q (W H far d1 d2 x' y' : Int32) (y : Int64) : Int64 := if ev_il x'.toInt64 0 (W - 1).toInt64 = 0 then y else if ev_il y'.toInt64 0 (H - 1).toInt64 = 0 then y else
  if far = 2 ∨ d1 = 0 ∨ d2 = 0 then y ||| ((1 : Int64) <<< ((W * y' + x').toInt64 &&& 63)) else y
noncomputable def ab_p (W H wr far c k : Int32) (y : Int64) : Int64 := ab_q W H far (k - k / 3 * 3 - 1) (k / 3 - 1) (ab_x W wr ((c - c / W * W) + (k - k / 3 * 3 - 1))) (ab_x H wr (c / W + (k / 3 - 1))) y
noncomputable def ab_K (W H wr far c : Int32) : Nat → Int32 → Int64 → Int64
  | 0, _, y => y
  | r + 1, k, y => ab_K W H wr far c r (k + 1) (ab_p W H wr far c k y)
noncomputable def ab_C (W H wr far : Int32) (z : Int64) : Nat → Int32 → Int64 → Int64
  | 0, _, y => y
  | r + 1, c, y => ab_C W H wr far z r (c + 1) (if ev_has z c = 0 then y else ab_K W H wr far c 9 0 y)
/-- cells about a set -/
noncomputable def ab_F (W H wr far : Int32) (z : Int64) : Int64 := if far ≤ 0 then z else ab_C W H wr far z (W * H).toInt.toNat 0 z
section
variable {X : ez_X} {I : Nat → Nat → Int32} {J : Nat → Nat → Int64} {R : Nat → Nat} {T : List ez_C} {Q : pw_Q} {z : Int64} {far : Int32}
theorem ab_9 {k : Int32} {r : Nat} (h : k.toInt + r = 9) (h0 : 0 ≤ k.toInt) : (9 ≤ k ↔ r = 0) := by
  rw [Int32.le_iff_toInt_le, show (9 : Int32).toInt = 9 from by decide]
  omega
theorem ab_in {c : Int32} {N : Nat} : ∀ (r : Nat) (k : Int32) (y : Int64), k.toInt + r = 9 → 0 ≤ k.toInt →
    pw N X 165 185 [.ref 35, .long z, ez_fill, .int far, .long (ab_K (I 35 0) (I 35 1) (I 35 2) far c r k y), ez_fill, .int c] [] (ev_hp I J R T) Q →
    pw N X 165 31 [.ref 35, .long z, ez_fill, .int far, .long y, ez_fill, .int c, .int k] [] (ev_hp I J R T) Q := by
  intro r
  induction r with
  | zero =>
    intro k y hk h0 cont
    exact pw_p (ab_31 ⟨fun _ => cont, fun w => absurd ((ab_9 hk h0).mpr rfl) w⟩)
  | succ r ih =>
    intro k y hk h0 cont
    have hk1 : (k + 1).toInt = k.toInt + 1 := i_inc (by omega)
    have rest : pw N X 165 179 [.ref 35, .long z, ez_fill, .int far, .long (ab_p (I 35 0) (I 35 1) (I 35 2) far c k y), ez_fill, .int c, .int k, .int (k - k / 3 * 3 - 1), .int (k / 3 - 1), .int (ab_x (I 35 0) (I 35 2) ((c - c / I 35 0 * I 35 0) + (k - k / 3 * 3 - 1))), .int (ab_x (I 35 1) (I 35 2) (c / I 35 0 + (k / 3 - 1)))] [] (ev_hp I J R T) Q :=
      pw_p (ab_179 (ih (k + 1) _ (by omega) (by omega) cont))
    unfold ab_p ab_q at rest
    have cell : pw N X 165 113 [.ref 35, .long z, ez_fill, .int far, .long y, ez_fill, .int c, .int k, .int (k - k / 3 * 3 - 1), .int (k / 3 - 1), .int (ab_x (I 35 0) (I 35 2) ((c - c / I 35 0 * I 35 0) + (k - k / 3 * 3 - 1))), .int (ab_x (I 35 1) (I 35 2) (c / I 35 0 + (k / 3 - 1)))] [] (ev_hp I J R T) Q := by
      refine pw_p (ab_113 ⟨fun h1 => ?_, fun h1 => ⟨fun h2 => ?_, fun h2 => ⟨fun h3 => ?_, fun h3 => ⟨fun h4 => ?_, fun h4 => ⟨fun h5 => ?_, fun h5 => ?_⟩⟩⟩⟩⟩)
      · rw [if_pos h1] at rest
        exact rest
      · rw [if_neg h1, if_pos h2] at rest
        exact rest
      · rw [if_neg h1, if_neg h2, if_pos (Or.inl h3)] at rest
        exact rest
      · rw [if_neg h1, if_neg h2, if_pos (Or.inr (Or.inl h4))] at rest
        exact rest
      · rw [if_neg h1, if_neg h2, if_neg (fun o => o.elim h3 fun o => o.elim h4 h5)] at rest
        exact rest
      · rw [if_neg h1, if_neg h2, if_pos (Or.inr (Or.inr (Classical.not_not.mp h5)))] at rest
        exact rest
    refine pw_p (ab_31 ⟨fun w => ?_, fun _ _ _ _ _ => ⟨fun h => ?_, fun h => ?_⟩⟩)
    · have := (ab_9 hk h0).mp w
      omega
    · unfold ab_x at cell
      rw [if_pos h, if_pos h] at cell
      exact cell
    · intro _ _
      unfold ab_x at cell
      rw [if_neg h, if_neg h] at cell
      exact cell
theorem pe_about {N : Nat} (hc : 0 ≤ (I 35 0 * I 35 1).toInt ∧ (I 35 0 * I 35 1).toInt < 900) : pe N X 165 [.ref 35, .long z, .int far] (ev_hp I J R T) (fun r h => r = some (.long (ab_F (I 35 0) (I 35 1) (I 35 2) far z)) ∧ h = ev_hp I J R T) := by
  have e0 : (0 : Int32).toInt = 0 := by decide
  refine pe_of (pw_p (ab_0 ?_))
  by_cases hf : far ≤ 0
  · refine pw_p (ab_6 ⟨fun _ => ?_, fun _ => ⟨fun _ => ?_, fun h => absurd hf h⟩⟩)
    all_goals
      refine ⟨?_, rfl⟩
      unfold ab_F
      rw [if_pos hf]
  · have loop : ∀ (r : Nat) (c : Int32) (y : Int64), c.toInt + r = (I 35 0 * I 35 1).toInt → 0 ≤ c.toInt → ab_C (I 35 0) (I 35 1) (I 35 2) far z r c y = ab_F (I 35 0) (I 35 1) (I 35 2) far z →
        pw N X 165 6 [.ref 35, .long z, ez_fill, .int far, .long y, ez_fill, .int c] [] (ev_hp I J R T) (fun r h => r = some (.long (ab_F (I 35 0) (I 35 1) (I 35 2) far z)) ∧ h = ev_hp I J R T) := by
      intro r
      induction r with
      | zero =>
        intro c y hc1 h0 e
        refine pw_p (ab_6 ⟨fun _ => ⟨by rw [← e]; rfl, rfl⟩, fun w => absurd (Int32.le_iff_toInt_le.mpr (by omega)) w⟩)
      | succ r ih =>
        intro c y hc1 h0 e
        have hc2 : (c + 1).toInt = c.toInt + 1 := i_inc (by omega)
        unfold ab_C at e
        refine pw_p (ab_6 ⟨fun w => ?_, fun _ => ⟨fun h => absurd h hf, fun _ => ⟨fun h => ?_, fun h => ?_⟩⟩⟩)
        · rw [Int32.le_iff_toInt_le] at w
          omega
        · rw [if_pos h] at e
          exact pw_p (ab_185 (ih (c + 1) y (by omega) (by omega) e))
        · rw [if_neg h] at e
          exact ab_in 9 0 y rfl (by decide) (pw_p (ab_185 (ih (c + 1) _ (by omega) (by omega) e)))
    refine loop (I 35 0 * I 35 1).toInt.toNat 0 z (by omega) (by decide) ?_
    unfold ab_F
    rw [if_neg hf]
end
end
section
/-! The reference finds the spots of a ship. -/
section
variable {N : Nat} {X : ez_X} {I : Nat → Nat → Int32} {J : Nat → Nat → Int64} {R : Nat → Nat} {T : List ez_C} {Q : pw_Q} {cz kz : Nat}
set_option maxRecDepth 100000 in
theorem fd_r0 {a0 : Int32} : ∀ G : ez_F, fx_up X 5 G 190 0 [.ref 35, .int a0] [] (ev_hp I J R T) cz kz = G 190 7 [.ref 35, .int a0, .int (0 : Int32)] [.int a0, .ref 37] (ev_hp I J R T) cz kz := by
  intro G
  rfl
set_option maxRecDepth 100000 in
theorem fd_r1 {a0 : Int32} {a1 : Int32} {a2 : Int32} : ∀ G : ez_F, fx_up X 1 G 190 8 [.ref 35, .int a0, .int a1] [.int a2] (ev_hp I J R T) cz kz = bif decide (¬ a2 = (0 : Int32)) then G 190 15 [.ref 35, .int a0, .int a1] [] (ev_hp I J R T) cz kz else G 190 11 [.ref 35, .int a0, .int a1] [] (ev_hp I J R T) cz kz := by
  intro G
  rfl
set_option maxRecDepth 100000 in
theorem fd_r2 {a0 : Int32} {a1 : Int32} : ∀ G : ez_F, fx_up X 3 G 190 15 [.ref 35, .int a0, .int a1] [] (ev_hp I J R T) cz kz = G 190 20 [.ref 35, .int a0, .int a1] [.int a0, .ref 37] (ev_hp I J R T) cz kz := by
  intro G
  rfl
set_option maxRecDepth 100000 in
theorem fd_r3 {a0 : Int32} {a1 : Int32} {a2 : Int32} : ∀ G : ez_F, fx_up X 2 G 190 21 [.ref 35, .int a0, .int a1] [.int a2] (ev_hp I J R T) cz kz = bif decide (¬ a2 = (1 : Int32)) then G 190 29 [.ref 35, .int a0, .int a1] [] (ev_hp I J R T) cz kz else G 190 25 [.ref 35, .int a0, .int a1] [] (ev_hp I J R T) cz kz := by
  intro G
  rfl
set_option maxRecDepth 100000 in
theorem fd_r4 {a0 : Int32} {a1 : Int32} : ∀ G : ez_F, fx_up X 4 G 190 29 [.ref 35, .int a0, .int a1] [] (ev_hp I J R T) cz kz = G 190 35 [.ref 35, .int a0, .int a1, .int (8 : Int32), .int (0 : Int32)] [] (ev_hp I J R T) cz kz := by
  intro G
  rfl
set_option maxRecDepth 100000 in
theorem fd_r5 {a0 : Int32} {a1 : Int32} : ∀ G : ez_F, fx_up X 5 G 190 25 [.ref 35, .int a0, .int a1] [] (ev_hp I J R T) cz kz = G 190 35 [.ref 35, .int a0, .int a1, .int (4 : Int32), .int (0 : Int32)] [] (ev_hp I J R T) cz kz := by
  intro G
  rfl
set_option maxRecDepth 100000 in
theorem fd_r6 {a0 : Int32} {a1 : Int32} : ∀ G : ez_F, fx_up X 5 G 190 11 [.ref 35, .int a0, .int a1] [] (ev_hp I J R T) cz kz = G 190 35 [.ref 35, .int a0, .int a1, .int (1 : Int32), .int (0 : Int32)] [] (ev_hp I J R T) cz kz := by
  intro G
  rfl
theorem fd_0 {s : Nat}
    (H : (ev_ix (Int32.ofNat s) 3 → ((¬ (I 37 (Int32.ofNat s).toNatClampNeg) = (0 : Int32) → (ev_ix (Int32.ofNat s) 3 → ((¬ (I 37 (Int32.ofNat s).toNatClampNeg) = (1 : Int32) → pw N X 190 35 [.ref 35, .int (Int32.ofNat s), .int (0 : Int32), .int (8 : Int32), .int (0 : Int32)] [] (ev_hp I J R T) Q) ∧ (¬ (¬ (I 37 (Int32.ofNat s).toNatClampNeg) = (1 : Int32)) → pw N X 190 35 [.ref 35, .int (Int32.ofNat s), .int (0 : Int32), .int (4 : Int32), .int (0 : Int32)] [] (ev_hp I J R T) Q)))) ∧ (¬ (¬ (I 37 (Int32.ofNat s).toNatClampNeg) = (0 : Int32)) → pw N X 190 35 [.ref 35, .int (Int32.ofNat s), .int (0 : Int32), .int (1 : Int32), .int (0 : Int32)] [] (ev_hp I J R T) Q)))) : pw (N + 1) X 190 0 [.ref 35, .int (Int32.ofNat s)] [] (ev_hp I J R T) Q := by
  refine pw_seg (by decide) (fun _ _ => fd_r0) ?_
  refine pw_p (pw_iald (by rfl) (cx_getI (show cx_Ds[37]? = some (0, 3, []) from rfl)) (fun w1 => ?_))
  have h1 := H w1
  refine pw_p (pw_if (by decide) (fun _ _ => fd_r1) (fun w1 => ?_) (fun w1 => ?_))
  · have h1 := h1.1 w1
    refine pw_p (pw_seg (by decide) (fun _ _ => fd_r2) ?_)
    refine pw_p (pw_iald (by rfl) (cx_getI (show cx_Ds[37]? = some (0, 3, []) from rfl)) (fun w2 => ?_))
    have h2 := h1 w2
    refine pw_p (pw_if (by decide) (fun _ _ => fd_r3) (fun w2 => ?_) (fun w2 => ?_))
    · have h2 := h2.1 w2
      refine pw_p (pw_seg (by decide) (fun _ _ => fd_r4) ?_)
      exact h2
    · have h2 := h2.2 w2
      refine pw_p (pw_seg (by decide) (fun _ _ => fd_r5) ?_)
      exact h2
  · have h1 := h1.2 w1
    refine pw_p (pw_seg (by decide) (fun _ _ => fd_r6) ?_)
    exact h1
set_option maxRecDepth 100000 in
theorem fd_r7 {a0 : Int32} {a1 : Int32} {a2 : Int32} {a3 : Int32} : ∀ G : ez_F, fx_up X 3 G 190 35 [.ref 35, .int a0, .int a1, .int a2, .int a3] [] (ev_hp I J R T) cz kz = bif decide (a2 ≤ a3) then G 190 245 [.ref 35, .int a0, .int a1, .int a2, .int a3] [] (ev_hp I J R T) cz kz else G 190 41 [.ref 35, .int a0, .int a1, .int a2, .int a3] [] (ev_hp I J R T) cz kz := by
  intro G
  rfl
set_option maxRecDepth 100000 in
theorem fd_r8 {a0 : Int32} {a1 : Int32} {a2 : Int32} {a3 : Int32} : ∀ G : ez_F, fx_up X 4 G 190 245 [.ref 35, .int a0, .int a1, .int a2, .int a3] [] (ev_hp I J R T) cz kz = G 190 251 [.ref 35, .int a0, .int a1, .int a2, .int a3] [.int a1, .int a0, .ref 38] (ev_hp I J R T) cz kz := by
  intro G
  rfl
set_option maxRecDepth 100000 in
theorem fd_r9 {a0 : Int32} {a1 : Int32} {a2 : Int32} {a3 : Int32} : ∀ G : ez_F, fx_up X 2 G 190 252 [.ref 35, .int a0, .int a1, .int a2, .int a3] [] (ev_hp I J R T) cz kz = G 190 255 [.ref 35, .int a0, .int a1, .int a2, .int (0 : Int32)] [] (ev_hp I J R T) cz kz := by
  intro G
  rfl
set_option maxRecDepth 100000 in
theorem fd_r10 {a0 : Int32} {a1 : Int32} {a2 : Int32} {a3 : Int32} : ∀ G : ez_F, fx_up X 3 G 190 41 [.ref 35, .int a0, .int a1, .int a2, .int a3] [] (ev_hp I J R T) cz kz = G 190 46 [.ref 35, .int a0, .int a1, .int a2, .int a3] [.int a0, .ref 36] (ev_hp I J R T) cz kz := by
  intro G
  rfl
set_option maxRecDepth 100000 in
theorem fd_r11 {a0 : Int32} {a1 : Int32} {a2 : Int32} {a3 : Int32} {a4 : Int32} : ∀ G : ez_F, fx_up X 2 G 190 47 [.ref 35, .int a0, .int a1, .int a2, .int a3] [.int a4] (ev_hp I J R T) cz kz = ev_C G 230 [.int a4, .int a3] (ev_hp I J R T) fun r h1 c1 k1 => G 190 52 [.ref 35, .int a0, .int a1, .int a2, .int a3] (r.toList ++ []) h1 (cz + c1) (kz + k1) := by
  intro G
  rfl
theorem fd_35 {s n kd t : Nat}
    (H : (((Int32.ofNat kd) ≤ (Int32.ofNat t) → (ev_ix (Int32.ofNat s) 3 → pw N X 190 255 [.ref 35, .int (Int32.ofNat s), .int (Int32.ofNat n), .int (Int32.ofNat kd), .int (0 : Int32)] [] (ev_hp (ev_sI I 38 (upd (I 38) ((Int32.ofNat s).toNatClampNeg) (Int32.ofNat n))) J R T) Q)) ∧ (¬ ((Int32.ofNat kd) ≤ (Int32.ofNat t)) → (ev_ix (Int32.ofNat s) 3 → (∃ Q1 : pw_Q, pe N X 230 [.int (I 36 (Int32.ofNat s).toNatClampNeg), .int (Int32.ofNat t)] (ev_hp I J R T) Q1 ∧ ∀ (r : Option Value) (h1 : ez_H), Q1 r h1 → pw N X 190 52 [.ref 35, .int (Int32.ofNat s), .int (Int32.ofNat n), .int (Int32.ofNat kd), .int (Int32.ofNat t)] (r.toList ++ []) h1 Q))))) : pw (N + 1) X 190 35 [.ref 35, .int (Int32.ofNat s), .int (Int32.ofNat n), .int (Int32.ofNat kd), .int (Int32.ofNat t)] [] (ev_hp I J R T) Q := by
  refine pw_if (by decide) (fun _ _ => fd_r7) (fun w1 => ?_) (fun w1 => ?_)
  · have h1 := H.1 w1
    refine pw_p (pw_seg (by decide) (fun _ _ => fd_r8) ?_)
    refine pw_p (pw_iast (by rfl) (cx_getI (show cx_Ds[38]? = some (0, 3, []) from rfl)) (cx_setI (show cx_Ds[38]? = some (0, 3, []) from rfl) _) (fun w2 => ?_))
    have h2 := h1 w2
    refine pw_p (pw_seg (by decide) (fun _ _ => fd_r9) ?_)
    exact h2
  · have h1 := H.2 w1
    refine pw_p (pw_seg (by decide) (fun _ _ => fd_r10) ?_)
    refine pw_p (pw_iald (by rfl) (cx_getI (show cx_Ds[36]? = some (0, 3, []) from rfl)) (fun w2 => ?_))
    have h2 := h1 w2
    obtain ⟨Q1, hc, hk⟩ := h2
    exact pw_p (pw_call (by decide) (fun _ _ => fd_r11) hc hk)
set_option maxRecDepth 100000 in
theorem fd_r12 {a0 : Int32} {a1 : Int32} {a2 : Int32} {a3 : Int32} {a4 : Int32} : ∀ G : ez_F, fx_up X 3 G 190 52 [.ref 35, .int a0, .int a1, .int a2, .int a3] [.int a4] (ev_hp I J R T) cz kz = G 190 57 [.ref 35, .int a0, .int a1, .int a2, .int a3, .int a4, .int (0 : Int32)] [] (ev_hp I J R T) cz kz := by
  intro G
  rfl
theorem fd_52 {s n kd t : Nat} {x : Int32}
    (H : pw N X 190 57 [.ref 35, .int (Int32.ofNat s), .int (Int32.ofNat n), .int (Int32.ofNat kd), .int (Int32.ofNat t), .int x, .int (0 : Int32)] [] (ev_hp I J R T) Q) : pw (N + 1) X 190 52 [.ref 35, .int (Int32.ofNat s), .int (Int32.ofNat n), .int (Int32.ofNat kd), .int (Int32.ofNat t)] [.int x] (ev_hp I J R T) Q := by
  refine pw_seg (by decide) (fun _ _ => fd_r12) ?_
  exact H
set_option maxRecDepth 100000 in
theorem fd_r13 {a0 : Int32} {a1 : Int32} {a2 : Int32} {a3 : Int32} {a4 : Int32} {a5 : Int32} : ∀ G : ez_F, fx_up X 3 G 190 57 [.ref 35, .int a0, .int a1, .int a2, .int a3, .int a4, .int a5] [] (ev_hp I J R T) cz kz = bif decide ((100 : Int32) ≤ a5) then G 190 239 [.ref 35, .int a0, .int a1, .int a2, .int a3, .int a4, .int a5] [] (ev_hp I J R T) cz kz else G 190 64 [.ref 35, .int a0, .int a1, .int a2, .int a3, .int a4, .int a5] [] (ev_hp I J R T) cz kz := by
  intro G
  rfl
set_option maxRecDepth 100000 in
theorem fd_r14 {a0 : Int32} {a1 : Int32} {a2 : Int32} {a3 : Int32} {a4 : Int32} {a5 : Int32} : ∀ G : ez_F, fx_up X 2 G 190 239 [.ref 35, .int a0, .int a1, .int a2, .int a3, .int a4, .int a5] [] (ev_hp I J R T) cz kz = G 190 35 [.ref 35, .int a0, .int a1, .int a2, .int (a3 + (1 : Int32)), .int a4, .int a5] [] (ev_hp I J R T) cz kz := by
  intro G
  rfl
set_option maxRecDepth 100000 in
theorem fd_r15 {a0 : Int32} {a1 : Int32} {a2 : Int32} {a3 : Int32} {a4 : Int32} {a5 : Int32} : ∀ G : ez_F, fx_up X 4 G 190 64 [.ref 35, .int a0, .int a1, .int a2, .int a3, .int a4, .int a5] [] (ev_hp I J R T) cz kz = G 190 71 [.ref 35, .int a0, .int a1, .int a2, .int a3, .int a4, .int a5] [.int (10 : Int32), .int a5, .int a4, .ref 35] (ev_hp I J R T) cz kz := by
  intro G
  rfl
set_option maxRecDepth 100000 in
theorem fd_r16 {a0 : Int32} {a1 : Int32} {a2 : Int32} {a3 : Int32} {a4 : Int32} {a5 : Int32} {a6 : Int32} {a7 : Int32} : ∀ G : ez_F, fx_up X 4 G 190 72 [.ref 35, .int a0, .int a1, .int a2, .int a3, .int a4, .int a5] [.int a6, .int a7, .ref 35] (ev_hp I J R T) cz kz = G 190 78 [.ref 35, .int a0, .int a1, .int a2, .int a3, .int a4, .int a5] [.int (10 : Int32), .int a5, .int (a6 - (4 : Int32)), .int a7, .ref 35] (ev_hp I J R T) cz kz := by
  intro G
  rfl
set_option maxRecDepth 100000 in
theorem fd_r17 {a0 : Int32} {a1 : Int32} {a2 : Int32} {a3 : Int32} {a4 : Int32} {a5 : Int32} {a6 : Int32} {a7 : Int32} {a8 : Int32} : ∀ G : ez_F, fx_up X 3 G 190 79 [.ref 35, .int a0, .int a1, .int a2, .int a3, .int a4, .int a5] [.int a6, .int a7, .int a8, .ref 35] (ev_hp I J R T) cz kz = ev_C G 211 [.ref 35, .int a8, .int a7, .int (a6 - (4 : Int32))] (ev_hp I J R T) fun r h1 c1 k1 => G 190 84 [.ref 35, .int a0, .int a1, .int a2, .int a3, .int a4, .int a5] (r.toList ++ []) h1 (cz + c1) (kz + k1) := by
  intro G
  rfl
theorem fd_57 {s n kd t w mm : Nat}
    (H : (((100 : Int32) ≤ (Int32.ofNat mm) → pw N X 190 35 [.ref 35, .int (Int32.ofNat s), .int (Int32.ofNat n), .int (Int32.ofNat kd), .int ((Int32.ofNat t) + (1 : Int32))] [] (ev_hp I J R T) Q) ∧ (¬ ((100 : Int32) ≤ (Int32.ofNat mm)) → (¬ (10 : Int32) = 0 → (¬ (10 : Int32) = 0 → (∃ Q1 : pw_Q, pe N X 211 [.ref 35, .int (Int32.ofNat w), .int (((Int32.ofNat mm) - (Int32.ofNat mm) / (10 : Int32) * (10 : Int32)) - (4 : Int32)), .int (((Int32.ofNat mm) / (10 : Int32)) - (4 : Int32))] (ev_hp I J R T) Q1 ∧ ∀ (r : Option Value) (h1 : ez_H), Q1 r h1 → pw N X 190 84 [.ref 35, .int (Int32.ofNat s), .int (Int32.ofNat n), .int (Int32.ofNat kd), .int (Int32.ofNat t), .int (Int32.ofNat w), .int (Int32.ofNat mm)] (r.toList ++ []) h1 Q)))))) : pw (N + 1) X 190 57 [.ref 35, .int (Int32.ofNat s), .int (Int32.ofNat n), .int (Int32.ofNat kd), .int (Int32.ofNat t), .int (Int32.ofNat w), .int (Int32.ofNat mm)] [] (ev_hp I J R T) Q := by
  refine pw_if (by decide) (fun _ _ => fd_r13) (fun w1 => ?_) (fun w1 => ?_)
  · have h1 := H.1 w1
    refine pw_p (pw_seg (by decide) (fun _ _ => fd_r14) ?_)
    refine pw_cutl (by rfl) ?_
    exact h1
  · have h1 := H.2 w1
    refine pw_p (pw_seg (by decide) (fun _ _ => fd_r15) ?_)
    refine pw_p (pw_irem (by rfl) (fun w2 => ?_))
    have h2 := h1 w2
    refine pw_p (pw_seg (by decide) (fun _ _ => fd_r16) ?_)
    refine pw_p (pw_idiv (by rfl) (fun w2 => ?_))
    have h2 := h2 w2
    obtain ⟨Q1, hc, hk⟩ := h2
    exact pw_p (pw_call (by decide) (fun _ _ => fd_r17) hc hk)
set_option maxRecDepth 100000 in
theorem fd_r18 {a0 : Int32} {a1 : Int32} {a2 : Int32} {a3 : Int32} {a4 : Int32} {a5 : Int32} {a6 : Int64} : ∀ G : ez_F, fx_up X 3 G 190 84 [.ref 35, .int a0, .int a1, .int a2, .int a3, .int a4, .int a5] [.long a6] (ev_hp I J R T) cz kz = G 190 89 [.ref 35, .int a0, .int a1, .int a2, .int a3, .int a4, .int a5, .long a6, ez_fill, .int a1] [] (ev_hp I J R T) cz kz := by
  intro G
  rfl
theorem fd_84 {s n kd t w mm : Nat} {v : Int64}
    (H : pw N X 190 89 [.ref 35, .int (Int32.ofNat s), .int (Int32.ofNat n), .int (Int32.ofNat kd), .int (Int32.ofNat t), .int (Int32.ofNat w), .int (Int32.ofNat mm), .long v, ez_fill, .int (Int32.ofNat n)] [] (ev_hp I J R T) Q) : pw (N + 1) X 190 84 [.ref 35, .int (Int32.ofNat s), .int (Int32.ofNat n), .int (Int32.ofNat kd), .int (Int32.ofNat t), .int (Int32.ofNat w), .int (Int32.ofNat mm)] [.long v] (ev_hp I J R T) Q := by
  refine pw_seg (by decide) (fun _ _ => fd_r18) ?_
  exact H
set_option maxRecDepth 100000 in
theorem fd_r19 {a0 : Int32} {a1 : Int32} {a2 : Int32} {a3 : Int32} {a4 : Int32} {a5 : Int32} {a6 : Int64} {a7 : Int32} : ∀ G : ez_F, fx_up X 2 G 190 89 [.ref 35, .int a0, .int a1, .int a2, .int a3, .int a4, .int a5, .long a6, ez_fill, .int a7] [] (ev_hp I J R T) cz kz = bif decide (a7 ≤ (0 : Int32)) then G 190 121 [.ref 35, .int a0, .int a1, .int a2, .int a3, .int a4, .int a5, .long a6, ez_fill, .int a7] [] (ev_hp I J R T) cz kz else G 190 94 [.ref 35, .int a0, .int a1, .int a2, .int a3, .int a4, .int a5, .long a6, ez_fill, .int a7] [] (ev_hp I J R T) cz kz := by
  intro G
  rfl
set_option maxRecDepth 100000 in
theorem fd_r20 {a0 : Int32} {a1 : Int32} {a2 : Int32} {a3 : Int32} {a4 : Int32} {a5 : Int32} {a6 : Int64} {a7 : Int32} : ∀ G : ez_F, fx_up X 9 G 190 94 [.ref 35, .int a0, .int a1, .int a2, .int a3, .int a4, .int a5, .long a6, ez_fill, .int a7] [] (ev_hp I J R T) cz kz = G 190 108 [.ref 35, .int a0, .int a1, .int a2, .int a3, .int a4, .int a5, .long a6, ez_fill, .int a7] [.int ((((300 : Int32) * a0) + a7) - (1 : Int32)), .ref 39] (ev_hp I J R T) cz kz := by
  intro G
  rfl
set_option maxRecDepth 100000 in
theorem fd_r21 {a0 : Int32} {a1 : Int32} {a2 : Int32} {a3 : Int32} {a4 : Int32} {a5 : Int32} {a6 : Int64} {a7 : Int32} {a8 : Int64} : ∀ G : ez_F, fx_up X 3 G 190 109 [.ref 35, .int a0, .int a1, .int a2, .int a3, .int a4, .int a5, .long a6, ez_fill, .int a7] [.long a8] (ev_hp I J R T) cz kz = bif decide ((lg_cmp a8 a6) ≤ (0 : Int32)) then G 190 121 [.ref 35, .int a0, .int a1, .int a2, .int a3, .int a4, .int a5, .long a6, ez_fill, .int a7] [] (ev_hp I J R T) cz kz else G 190 115 [.ref 35, .int a0, .int a1, .int a2, .int a3, .int a4, .int a5, .long a6, ez_fill, .int a7] [] (ev_hp I J R T) cz kz := by
  intro G
  rfl
set_option maxRecDepth 100000 in
theorem fd_r22 {a0 : Int32} {a1 : Int32} {a2 : Int32} {a3 : Int32} {a4 : Int32} {a5 : Int32} {a6 : Int64} {a7 : Int32} : ∀ G : ez_F, fx_up X 2 G 190 115 [.ref 35, .int a0, .int a1, .int a2, .int a3, .int a4, .int a5, .long a6, ez_fill, .int a7] [] (ev_hp I J R T) cz kz = G 190 89 [.ref 35, .int a0, .int a1, .int a2, .int a3, .int a4, .int a5, .long a6, ez_fill, .int (a7 + (-1 : Int32))] [] (ev_hp I J R T) cz kz := by
  intro G
  rfl
theorem fd_89 {s n kd t w mm k : Nat} {v : Int64}
    (H : (((Int32.ofNat k) ≤ (0 : Int32) → pw N X 190 121 [.ref 35, .int (Int32.ofNat s), .int (Int32.ofNat n), .int (Int32.ofNat kd), .int (Int32.ofNat t), .int (Int32.ofNat w), .int (Int32.ofNat mm), .long v, ez_fill, .int (Int32.ofNat k)] [] (ev_hp I J R T) Q) ∧ (¬ ((Int32.ofNat k) ≤ (0 : Int32)) → (ev_ix ((((300 : Int32) * (Int32.ofNat s)) + (Int32.ofNat k)) - (1 : Int32)) 900 → (((lg_cmp (J 39 ((((300 : Int32) * (Int32.ofNat s)) + (Int32.ofNat k)) - (1 : Int32)).toNatClampNeg) v) ≤ (0 : Int32) → pw N X 190 121 [.ref 35, .int (Int32.ofNat s), .int (Int32.ofNat n), .int (Int32.ofNat kd), .int (Int32.ofNat t), .int (Int32.ofNat w), .int (Int32.ofNat mm), .long v, ez_fill, .int (Int32.ofNat k)] [] (ev_hp I J R T) Q) ∧ (¬ ((lg_cmp (J 39 ((((300 : Int32) * (Int32.ofNat s)) + (Int32.ofNat k)) - (1 : Int32)).toNatClampNeg) v) ≤ (0 : Int32)) → pw N X 190 89 [.ref 35, .int (Int32.ofNat s), .int (Int32.ofNat n), .int (Int32.ofNat kd), .int (Int32.ofNat t), .int (Int32.ofNat w), .int (Int32.ofNat mm), .long v, ez_fill, .int ((Int32.ofNat k) + (-1 : Int32))] [] (ev_hp I J R T) Q)))))) : pw (N + 1) X 190 89 [.ref 35, .int (Int32.ofNat s), .int (Int32.ofNat n), .int (Int32.ofNat kd), .int (Int32.ofNat t), .int (Int32.ofNat w), .int (Int32.ofNat mm), .long v, ez_fill, .int (Int32.ofNat k)] [] (ev_hp I J R T) Q := by
  refine pw_if (by decide) (fun _ _ => fd_r19) (fun w1 => ?_) (fun w1 => ?_)
  · have h1 := H.1 w1
    exact h1
  · have h1 := H.2 w1
    refine pw_p (pw_seg (by decide) (fun _ _ => fd_r20) ?_)
    refine pw_p (pw_lald (by rfl) (cx_getJ (show cx_Ds[39]? = some (1, 900, []) from rfl)) (fun w2 => ?_))
    have h2 := h1 w2
    refine pw_p (pw_if (by decide) (fun _ _ => fd_r21) (fun w2 => ?_) (fun w2 => ?_))
    · have h2 := h2.1 w2
      exact h2
    · have h2 := h2.2 w2
      refine pw_p (pw_seg (by decide) (fun _ _ => fd_r22) ?_)
      exact h2
set_option maxRecDepth 100000 in
theorem fd_r23 {a0 : Int32} {a1 : Int32} {a2 : Int32} {a3 : Int32} {a4 : Int32} {a5 : Int32} {a6 : Int64} {a7 : Int32} : ∀ G : ez_F, fx_up X 4 G 190 121 [.ref 35, .int a0, .int a1, .int a2, .int a3, .int a4, .int a5, .long a6, ez_fill, .int a7] [] (ev_hp I J R T) cz kz = bif decide ((lg_cmp a6 (0 : Int64)) = (0 : Int32)) then G 190 158 [.ref 35, .int a0, .int a1, .int a2, .int a3, .int a4, .int a5, .long a6, ez_fill, .int a7] [] (ev_hp I J R T) cz kz else G 190 128 [.ref 35, .int a0, .int a1, .int a2, .int a3, .int a4, .int a5, .long a6, ez_fill, .int a7] [] (ev_hp I J R T) cz kz := by
  intro G
  rfl
set_option maxRecDepth 100000 in
theorem fd_r24 {a0 : Int32} {a1 : Int32} {a2 : Int32} {a3 : Int32} {a4 : Int32} {a5 : Int32} {a6 : Int64} {a7 : Int32} : ∀ G : ez_F, fx_up X 4 G 190 158 [.ref 35, .int a0, .int a1, .int a2, .int a3, .int a4, .int a5, .long a6, ez_fill, .int a7] [] (ev_hp I J R T) cz kz = G 190 164 [.ref 35, .int a0, .int a1, .int a2, .int a3, .int a4, .int a5, .long a6, ez_fill, .int a7, .int (0 : Int32), .int a1] [] (ev_hp I J R T) cz kz := by
  intro G
  rfl
set_option maxRecDepth 100000 in
theorem fd_r25 {a0 : Int32} {a1 : Int32} {a2 : Int32} {a3 : Int32} {a4 : Int32} {a5 : Int32} {a6 : Int64} {a7 : Int32} : ∀ G : ez_F, fx_up X 2 G 190 128 [.ref 35, .int a0, .int a1, .int a2, .int a3, .int a4, .int a5, .long a6, ez_fill, .int a7] [] (ev_hp I J R T) cz kz = bif decide (a7 = (0 : Int32)) then G 190 154 [.ref 35, .int a0, .int a1, .int a2, .int a3, .int a4, .int a5, .long a6, ez_fill, .int a7] [] (ev_hp I J R T) cz kz else G 190 133 [.ref 35, .int a0, .int a1, .int a2, .int a3, .int a4, .int a5, .long a6, ez_fill, .int a7] [] (ev_hp I J R T) cz kz := by
  intro G
  rfl
set_option maxRecDepth 100000 in
theorem fd_r26 {a0 : Int32} {a1 : Int32} {a2 : Int32} {a3 : Int32} {a4 : Int32} {a5 : Int32} {a6 : Int64} {a7 : Int32} : ∀ G : ez_F, fx_up X 5 G 190 154 [.ref 35, .int a0, .int a1, .int a2, .int a3, .int a4, .int a5, .long a6, ez_fill, .int a7] [] (ev_hp I J R T) cz kz = G 190 164 [.ref 35, .int a0, .int a1, .int a2, .int a3, .int a4, .int a5, .long a6, ez_fill, .int a7, .int (1 : Int32), .int a1] [] (ev_hp I J R T) cz kz := by
  intro G
  rfl
set_option maxRecDepth 100000 in
theorem fd_r27 {a0 : Int32} {a1 : Int32} {a2 : Int32} {a3 : Int32} {a4 : Int32} {a5 : Int32} {a6 : Int64} {a7 : Int32} : ∀ G : ez_F, fx_up X 9 G 190 133 [.ref 35, .int a0, .int a1, .int a2, .int a3, .int a4, .int a5, .long a6, ez_fill, .int a7] [] (ev_hp I J R T) cz kz = G 190 147 [.ref 35, .int a0, .int a1, .int a2, .int a3, .int a4, .int a5, .long a6, ez_fill, .int a7] [.int ((((300 : Int32) * a0) + a7) - (1 : Int32)), .ref 39] (ev_hp I J R T) cz kz := by
  intro G
  rfl
set_option maxRecDepth 100000 in
theorem fd_r28 {a0 : Int32} {a1 : Int32} {a2 : Int32} {a3 : Int32} {a4 : Int32} {a5 : Int32} {a6 : Int64} {a7 : Int32} {a8 : Int64} : ∀ G : ez_F, fx_up X 3 G 190 148 [.ref 35, .int a0, .int a1, .int a2, .int a3, .int a4, .int a5, .long a6, ez_fill, .int a7] [.long a8] (ev_hp I J R T) cz kz = bif decide ((lg_cmp a8 a6) = (0 : Int32)) then G 190 158 [.ref 35, .int a0, .int a1, .int a2, .int a3, .int a4, .int a5, .long a6, ez_fill, .int a7] [] (ev_hp I J R T) cz kz else G 190 154 [.ref 35, .int a0, .int a1, .int a2, .int a3, .int a4, .int a5, .long a6, ez_fill, .int a7] [] (ev_hp I J R T) cz kz := by
  intro G
  rfl
theorem fd_121 {s n kd t w mm k : Nat} {v : Int64}
    (H : (((lg_cmp v (0 : Int64)) = (0 : Int32) → pw N X 190 164 [.ref 35, .int (Int32.ofNat s), .int (Int32.ofNat n), .int (Int32.ofNat kd), .int (Int32.ofNat t), .int (Int32.ofNat w), .int (Int32.ofNat mm), .long v, ez_fill, .int (Int32.ofNat k), .int (0 : Int32), .int (Int32.ofNat n)] [] (ev_hp I J R T) Q) ∧ (¬ ((lg_cmp v (0 : Int64)) = (0 : Int32)) → (((Int32.ofNat k) = (0 : Int32) → pw N X 190 164 [.ref 35, .int (Int32.ofNat s), .int (Int32.ofNat n), .int (Int32.ofNat kd), .int (Int32.ofNat t), .int (Int32.ofNat w), .int (Int32.ofNat mm), .long v, ez_fill, .int (Int32.ofNat k), .int (1 : Int32), .int (Int32.ofNat n)] [] (ev_hp I J R T) Q) ∧ (¬ ((Int32.ofNat k) = (0 : Int32)) → (ev_ix ((((300 : Int32) * (Int32.ofNat s)) + (Int32.ofNat k)) - (1 : Int32)) 900 → (((lg_cmp (J 39 ((((300 : Int32) * (Int32.ofNat s)) + (Int32.ofNat k)) - (1 : Int32)).toNatClampNeg) v) = (0 : Int32) → pw N X 190 164 [.ref 35, .int (Int32.ofNat s), .int (Int32.ofNat n), .int (Int32.ofNat kd), .int (Int32.ofNat t), .int (Int32.ofNat w), .int (Int32.ofNat mm), .long v, ez_fill, .int (Int32.ofNat k), .int (0 : Int32), .int (Int32.ofNat n)] [] (ev_hp I J R T) Q) ∧ (¬ ((lg_cmp (J 39 ((((300 : Int32) * (Int32.ofNat s)) + (Int32.ofNat k)) - (1 : Int32)).toNatClampNeg) v) = (0 : Int32)) → pw N X 190 164 [.ref 35, .int (Int32.ofNat s), .int (Int32.ofNat n), .int (Int32.ofNat kd), .int (Int32.ofNat t), .int (Int32.ofNat w), .int (Int32.ofNat mm), .long v, ez_fill, .int (Int32.ofNat k), .int (1 : Int32), .int (Int32.ofNat n)] [] (ev_hp I J R T) Q)))))))) : pw (N + 1) X 190 121 [.ref 35, .int (Int32.ofNat s), .int (Int32.ofNat n), .int (Int32.ofNat kd), .int (Int32.ofNat t), .int (Int32.ofNat w), .int (Int32.ofNat mm), .long v, ez_fill, .int (Int32.ofNat k)] [] (ev_hp I J R T) Q := by
  refine pw_if (by decide) (fun _ _ => fd_r23) (fun w1 => ?_) (fun w1 => ?_)
  · have h1 := H.1 w1
    refine pw_p (pw_seg (by decide) (fun _ _ => fd_r24) ?_)
    exact h1
  · have h1 := H.2 w1
    refine pw_p (pw_if (by decide) (fun _ _ => fd_r25) (fun w2 => ?_) (fun w2 => ?_))
    · have h2 := h1.1 w2
      refine pw_p (pw_seg (by decide) (fun _ _ => fd_r26) ?_)
      exact h2
    · have h2 := h1.2 w2
      refine pw_p (pw_seg (by decide) (fun _ _ => fd_r27) ?_)
      refine pw_p (pw_lald (by rfl) (cx_getJ (show cx_Ds[39]? = some (1, 900, []) from rfl)) (fun w3 => ?_))
      have h3 := h2 w3
      refine pw_p (pw_if (by decide) (fun _ _ => fd_r28) (fun w3 => ?_) (fun w3 => ?_))
      · have h3 := h3.1 w3
        refine pw_p (pw_seg (by decide) (fun _ _ => fd_r24) ?_)
        exact h3
      · have h3 := h3.2 w3
        refine pw_p (pw_seg (by decide) (fun _ _ => fd_r26) ?_)
        exact h3
set_option maxRecDepth 100000 in
theorem fd_r29 {a0 : Int32} {a1 : Int32} {a2 : Int32} {a3 : Int32} {a4 : Int32} {a5 : Int32} {a6 : Int64} {a7 : Int32} {a8 : Int32} {a9 : Int32} : ∀ G : ez_F, fx_up X 3 G 190 164 [.ref 35, .int a0, .int a1, .int a2, .int a3, .int a4, .int a5, .long a6, ez_fill, .int a7, .int a8, .int a9] [] (ev_hp I J R T) cz kz = bif decide (a9 ≤ a7) then G 190 210 [.ref 35, .int a0, .int a1, .int a2, .int a3, .int a4, .int a5, .long a6, ez_fill, .int a7, .int a8, .int a9] [] (ev_hp I J R T) cz kz else G 190 171 [.ref 35, .int a0, .int a1, .int a2, .int a3, .int a4, .int a5, .long a6, ez_fill, .int a7, .int a8, .int a9] [] (ev_hp I J R T) cz kz := by
  intro G
  rfl
set_option maxRecDepth 100000 in
theorem fd_r30 {a0 : Int32} {a1 : Int32} {a2 : Int32} {a3 : Int32} {a4 : Int32} {a5 : Int32} {a6 : Int64} {a7 : Int32} {a8 : Int32} {a9 : Int32} : ∀ G : ez_F, fx_up X 2 G 190 171 [.ref 35, .int a0, .int a1, .int a2, .int a3, .int a4, .int a5, .long a6, ez_fill, .int a7, .int a8, .int a9] [] (ev_hp I J R T) cz kz = bif decide (a8 = (0 : Int32)) then G 190 210 [.ref 35, .int a0, .int a1, .int a2, .int a3, .int a4, .int a5, .long a6, ez_fill, .int a7, .int a8, .int a9] [] (ev_hp I J R T) cz kz else G 190 176 [.ref 35, .int a0, .int a1, .int a2, .int a3, .int a4, .int a5, .long a6, ez_fill, .int a7, .int a8, .int a9] [] (ev_hp I J R T) cz kz := by
  intro G
  rfl
set_option maxRecDepth 100000 in
theorem fd_r31 {a0 : Int32} {a1 : Int32} {a2 : Int32} {a3 : Int32} {a4 : Int32} {a5 : Int32} {a6 : Int64} {a7 : Int32} {a8 : Int32} {a9 : Int32} : ∀ G : ez_F, fx_up X 12 G 190 176 [.ref 35, .int a0, .int a1, .int a2, .int a3, .int a4, .int a5, .long a6, ez_fill, .int a7, .int a8, .int a9] [] (ev_hp I J R T) cz kz = G 190 197 [.ref 35, .int a0, .int a1, .int a2, .int a3, .int a4, .int a5, .long a6, ez_fill, .int a7, .int a8, .int a9] [.int ((300 : Int32) * a0), .ref 39, .int (((300 : Int32) * a0) + a9), .ref 39] (ev_hp I J R T) cz kz := by
  intro G
  rfl
set_option maxRecDepth 100000 in
theorem fd_r32 {a0 : Int32} {a1 : Int32} {a2 : Int32} {a3 : Int32} {a4 : Int32} {a5 : Int32} {a6 : Int64} {a7 : Int32} {a8 : Int32} {a9 : Int32} {a10 : Int32} {a11 : Int32} : ∀ G : ez_F, fx_up X 4 G 190 197 [.ref 35, .int a0, .int a1, .int a2, .int a3, .int a4, .int a5, .long a6, ez_fill, .int a7, .int a8, .int a9] [.int a10, .ref 39, .int a11, .ref 39] (ev_hp I J R T) cz kz = G 190 202 [.ref 35, .int a0, .int a1, .int a2, .int a3, .int a4, .int a5, .long a6, ez_fill, .int a7, .int a8, .int a9] [.int ((a10 + a9) - (1 : Int32)), .ref 39, .int a11, .ref 39] (ev_hp I J R T) cz kz := by
  intro G
  rfl
set_option maxRecDepth 100000 in
theorem fd_r33 {a0 : Int32} {a1 : Int32} {a2 : Int32} {a3 : Int32} {a4 : Int32} {a5 : Int32} {a6 : Int64} {a7 : Int32} {a8 : Int32} {a9 : Int32} : ∀ G : ez_F, fx_up X 2 G 190 204 [.ref 35, .int a0, .int a1, .int a2, .int a3, .int a4, .int a5, .long a6, ez_fill, .int a7, .int a8, .int a9] [] (ev_hp I J R T) cz kz = G 190 164 [.ref 35, .int a0, .int a1, .int a2, .int a3, .int a4, .int a5, .long a6, ez_fill, .int a7, .int a8, .int (a9 + (-1 : Int32))] [] (ev_hp I J R T) cz kz := by
  intro G
  rfl
theorem fd_164 {s n kd t w mm k : Nat} {v : Int64} {e : Int32} {i : Nat}
    (H : (((Int32.ofNat i) ≤ (Int32.ofNat k) → pw N X 190 210 [.ref 35, .int (Int32.ofNat s), .int (Int32.ofNat n), .int (Int32.ofNat kd), .int (Int32.ofNat t), .int (Int32.ofNat w), .int (Int32.ofNat mm), .long v, ez_fill, .int (Int32.ofNat k), .int e, .int (Int32.ofNat i)] [] (ev_hp I J R T) Q) ∧ (¬ ((Int32.ofNat i) ≤ (Int32.ofNat k)) → ((e = (0 : Int32) → pw N X 190 210 [.ref 35, .int (Int32.ofNat s), .int (Int32.ofNat n), .int (Int32.ofNat kd), .int (Int32.ofNat t), .int (Int32.ofNat w), .int (Int32.ofNat mm), .long v, ez_fill, .int (Int32.ofNat k), .int e, .int (Int32.ofNat i)] [] (ev_hp I J R T) Q) ∧ (¬ (e = (0 : Int32)) → (ev_ix ((((300 : Int32) * (Int32.ofNat s)) + (Int32.ofNat i)) - (1 : Int32)) 900 → (ev_ix (((300 : Int32) * (Int32.ofNat s)) + (Int32.ofNat i)) 900 → pw N X 190 164 [.ref 35, .int (Int32.ofNat s), .int (Int32.ofNat n), .int (Int32.ofNat kd), .int (Int32.ofNat t), .int (Int32.ofNat w), .int (Int32.ofNat mm), .long v, ez_fill, .int (Int32.ofNat k), .int e, .int ((Int32.ofNat i) + (-1 : Int32))] [] (ev_hp I (ev_sJ J 39 (vp_updL (J 39) ((((300 : Int32) * (Int32.ofNat s)) + (Int32.ofNat i)).toNatClampNeg) (J 39 ((((300 : Int32) * (Int32.ofNat s)) + (Int32.ofNat i)) - (1 : Int32)).toNatClampNeg))) R T) Q))))))) : pw (N + 1) X 190 164 [.ref 35, .int (Int32.ofNat s), .int (Int32.ofNat n), .int (Int32.ofNat kd), .int (Int32.ofNat t), .int (Int32.ofNat w), .int (Int32.ofNat mm), .long v, ez_fill, .int (Int32.ofNat k), .int e, .int (Int32.ofNat i)] [] (ev_hp I J R T) Q := by
  refine pw_if (by decide) (fun _ _ => fd_r29) (fun w1 => ?_) (fun w1 => ?_)
  · have h1 := H.1 w1
    exact h1
  · have h1 := H.2 w1
    refine pw_p (pw_if (by decide) (fun _ _ => fd_r30) (fun w2 => ?_) (fun w2 => ?_))
    · have h2 := h1.1 w2
      exact h2
    · have h2 := h1.2 w2
      refine pw_p (pw_seg (by decide) (fun _ _ => fd_r31) ?_)
      refine pw_p (pw_seg (by decide) (fun _ _ => fd_r32) ?_)
      refine pw_p (pw_lald (by rfl) (cx_getJ (show cx_Ds[39]? = some (1, 900, []) from rfl)) (fun w3 => ?_))
      have h3 := h2 w3
      refine pw_p (pw_last (by rfl) (cx_getJ (show cx_Ds[39]? = some (1, 900, []) from rfl)) (cx_setJ (show cx_Ds[39]? = some (1, 900, []) from rfl) _) (fun w3 => ?_))
      have h3 := h3 w3
      refine pw_p (pw_seg (by decide) (fun _ _ => fd_r33) ?_)
      exact h3
set_option maxRecDepth 100000 in
theorem fd_r34 {a0 : Int32} {a1 : Int32} {a2 : Int32} {a3 : Int32} {a4 : Int32} {a5 : Int32} {a6 : Int64} {a7 : Int32} {a8 : Int32} {a9 : Int32} : ∀ G : ez_F, fx_up X 2 G 190 210 [.ref 35, .int a0, .int a1, .int a2, .int a3, .int a4, .int a5, .long a6, ez_fill, .int a7, .int a8, .int a9] [] (ev_hp I J R T) cz kz = bif decide (a8 = (0 : Int32)) then G 190 233 [.ref 35, .int a0, .int a1, .int a2, .int a3, .int a4, .int a5, .long a6, ez_fill, .int a7, .int a8, .int a9] [] (ev_hp I J R T) cz kz else G 190 215 [.ref 35, .int a0, .int a1, .int a2, .int a3, .int a4, .int a5, .long a6, ez_fill, .int a7, .int a8, .int a9] [] (ev_hp I J R T) cz kz := by
  intro G
  rfl
set_option maxRecDepth 100000 in
theorem fd_r35 {a0 : Int32} {a1 : Int32} {a2 : Int32} {a3 : Int32} {a4 : Int32} {a5 : Int32} {a6 : Int64} {a7 : Int32} {a8 : Int32} {a9 : Int32} : ∀ G : ez_F, fx_up X 8 G 190 215 [.ref 35, .int a0, .int a1, .int a2, .int a3, .int a4, .int a5, .long a6, ez_fill, .int a7, .int a8, .int a9] [] (ev_hp I J R T) cz kz = G 190 229 [.ref 35, .int a0, .int a1, .int a2, .int a3, .int a4, .int a5, .long a6, ez_fill, .int a7, .int a8, .int a9] [.long a6, .int (((300 : Int32) * a0) + a7), .ref 39] (ev_hp I J R T) cz kz := by
  intro G
  rfl
set_option maxRecDepth 100000 in
theorem fd_r36 {a0 : Int32} {a1 : Int32} {a2 : Int32} {a3 : Int32} {a4 : Int32} {a5 : Int32} {a6 : Int64} {a7 : Int32} {a8 : Int32} {a9 : Int32} : ∀ G : ez_F, fx_up X 1 G 190 230 [.ref 35, .int a0, .int a1, .int a2, .int a3, .int a4, .int a5, .long a6, ez_fill, .int a7, .int a8, .int a9] [] (ev_hp I J R T) cz kz = G 190 233 [.ref 35, .int a0, .int (a1 + (1 : Int32)), .int a2, .int a3, .int a4, .int a5, .long a6, ez_fill, .int a7, .int a8, .int a9] [] (ev_hp I J R T) cz kz := by
  intro G
  rfl
theorem fd_210 {s n kd t w mm k : Nat} {v : Int64} {e i : Int32}
    (H : ((e = (0 : Int32) → pw N X 190 233 [.ref 35, .int (Int32.ofNat s), .int (Int32.ofNat n), .int (Int32.ofNat kd), .int (Int32.ofNat t), .int (Int32.ofNat w), .int (Int32.ofNat mm), .long v, ez_fill, .int (Int32.ofNat k), .int e, .int i] [] (ev_hp I J R T) Q) ∧ (¬ (e = (0 : Int32)) → (ev_ix (((300 : Int32) * (Int32.ofNat s)) + (Int32.ofNat k)) 900 → pw N X 190 233 [.ref 35, .int (Int32.ofNat s), .int ((Int32.ofNat n) + (1 : Int32)), .int (Int32.ofNat kd), .int (Int32.ofNat t), .int (Int32.ofNat w), .int (Int32.ofNat mm), .long v, ez_fill, .int (Int32.ofNat k), .int e, .int i] [] (ev_hp I (ev_sJ J 39 (vp_updL (J 39) ((((300 : Int32) * (Int32.ofNat s)) + (Int32.ofNat k)).toNatClampNeg) v)) R T) Q)))) : pw (N + 1) X 190 210 [.ref 35, .int (Int32.ofNat s), .int (Int32.ofNat n), .int (Int32.ofNat kd), .int (Int32.ofNat t), .int (Int32.ofNat w), .int (Int32.ofNat mm), .long v, ez_fill, .int (Int32.ofNat k), .int e, .int i] [] (ev_hp I J R T) Q := by
  refine pw_if (by decide) (fun _ _ => fd_r34) (fun w1 => ?_) (fun w1 => ?_)
  · have h1 := H.1 w1
    exact h1
  · have h1 := H.2 w1
    refine pw_p (pw_seg (by decide) (fun _ _ => fd_r35) ?_)
    refine pw_p (pw_last (by rfl) (cx_getJ (show cx_Ds[39]? = some (1, 900, []) from rfl)) (cx_setJ (show cx_Ds[39]? = some (1, 900, []) from rfl) _) (fun w2 => ?_))
    have h2 := h1 w2
    refine pw_p (pw_seg (by decide) (fun _ _ => fd_r36) ?_)
    exact h2
set_option maxRecDepth 100000 in
theorem fd_r37 {a0 : Int32} {a1 : Int32} {a2 : Int32} {a3 : Int32} {a4 : Int32} {a5 : Int32} {a6 : Int64} {a7 : Int32} {a8 : Int32} {a9 : Int32} : ∀ G : ez_F, fx_up X 2 G 190 233 [.ref 35, .int a0, .int a1, .int a2, .int a3, .int a4, .int a5, .long a6, ez_fill, .int a7, .int a8, .int a9] [] (ev_hp I J R T) cz kz = G 190 57 [.ref 35, .int a0, .int a1, .int a2, .int a3, .int a4, .int (a5 + (1 : Int32)), .long a6, ez_fill, .int a7, .int a8, .int a9] [] (ev_hp I J R T) cz kz := by
  intro G
  rfl
theorem fd_233 {s n kd t w mm k : Nat} {v : Int64} {e i : Int32}
    (H : pw N X 190 57 [.ref 35, .int (Int32.ofNat s), .int (Int32.ofNat n), .int (Int32.ofNat kd), .int (Int32.ofNat t), .int (Int32.ofNat w), .int ((Int32.ofNat mm) + (1 : Int32))] [] (ev_hp I J R T) Q) : pw (N + 1) X 190 233 [.ref 35, .int (Int32.ofNat s), .int (Int32.ofNat n), .int (Int32.ofNat kd), .int (Int32.ofNat t), .int (Int32.ofNat w), .int (Int32.ofNat mm), .long v, ez_fill, .int (Int32.ofNat k), .int e, .int i] [] (ev_hp I J R T) Q := by
  refine pw_seg (by decide) (fun _ _ => fd_r37) ?_
  refine pw_cutl (by rfl) ?_
  exact H
set_option maxRecDepth 100000 in
theorem fd_r38 {a0 : Int32} {a1 : Int32} {a2 : Int32} {a3 : Int32} : ∀ G : ez_F, fx_up X 3 G 190 255 [.ref 35, .int a0, .int a1, .int a2, .int a3] [] (ev_hp I J R T) cz kz = bif decide (a1 ≤ a3) then G 190 301 [.ref 35, .int a0, .int a1, .int a2, .int a3] [] (ev_hp I J R T) cz kz else G 190 261 [.ref 35, .int a0, .int a1, .int a2, .int a3] [] (ev_hp I J R T) cz kz := by
  intro G
  rfl
set_option maxRecDepth 100000 in
theorem fd_r39 {a0 : Int32} {a1 : Int32} {a2 : Int32} {a3 : Int32} : ∀ G : ez_F, fx_up X 1 G 190 301 [.ref 35, .int a0, .int a1, .int a2, .int a3] [] (ev_hp I J R T) cz kz = some (none, (ev_hp I J R T), cz, kz) := by
  intro G
  rfl
set_option maxRecDepth 100000 in
theorem fd_r40 {a0 : Int32} {a1 : Int32} {a2 : Int32} {a3 : Int32} : ∀ G : ez_F, fx_up X 12 G 190 261 [.ref 35, .int a0, .int a1, .int a2, .int a3] [] (ev_hp I J R T) cz kz = G 190 282 [.ref 35, .int a0, .int a1, .int a2, .int a3] [.int a0, .int (300 : Int32), .ref 39, .ref 35, .int (((300 : Int32) * a0) + a3), .ref 40] (ev_hp I J R T) cz kz := by
  intro G
  rfl
set_option maxRecDepth 100000 in
theorem fd_r41 {a0 : Int32} {a1 : Int32} {a2 : Int32} {a3 : Int32} {a4 : Int32} {a5 : Int32} {a6 : Int32} : ∀ G : ez_F, fx_up X 3 G 190 282 [.ref 35, .int a0, .int a1, .int a2, .int a3] [.int a4, .int a5, .ref 39, .ref 35, .int a6, .ref 40] (ev_hp I J R T) cz kz = G 190 286 [.ref 35, .int a0, .int a1, .int a2, .int a3] [.int ((a5 * a4) + a3), .ref 39, .ref 35, .int a6, .ref 40] (ev_hp I J R T) cz kz := by
  intro G
  rfl
set_option maxRecDepth 100000 in
theorem fd_r42 {a0 : Int32} {a1 : Int32} {a2 : Int32} {a3 : Int32} {a4 : Int64} {a5 : Int32} : ∀ G : ez_F, fx_up X 2 G 190 287 [.ref 35, .int a0, .int a1, .int a2, .int a3] [.long a4, .ref 35, .int a5, .ref 40] (ev_hp I J R T) cz kz = G 190 291 [.ref 35, .int a0, .int a1, .int a2, .int a3] [.int (I 35 6), .long a4, .ref 35, .int a5, .ref 40] (ev_hp I J R T) cz kz := by
  intro G
  rfl
set_option maxRecDepth 100000 in
theorem fd_r43 {a0 : Int32} {a1 : Int32} {a2 : Int32} {a3 : Int32} {a4 : Int32} {a5 : Int64} {a6 : Int32} : ∀ G : ez_F, fx_up X 1 G 190 291 [.ref 35, .int a0, .int a1, .int a2, .int a3] [.int a4, .long a5, .ref 35, .int a6, .ref 40] (ev_hp I J R T) cz kz = ev_C G 165 [.ref 35, .long a5, .int a4] (ev_hp I J R T) fun r h1 c1 k1 => G 190 294 [.ref 35, .int a0, .int a1, .int a2, .int a3] (r.toList ++ [.int a6, .ref 40]) h1 (cz + c1) (kz + k1) := by
  intro G
  rfl
theorem fd_255 {s n kd t : Nat}
    (H : (((Int32.ofNat n) ≤ (Int32.ofNat t) → Q none (ev_hp I J R T)) ∧ (¬ ((Int32.ofNat n) ≤ (Int32.ofNat t)) → (ev_ix (((300 : Int32) * (Int32.ofNat s)) + (Int32.ofNat t)) 900 → (∃ Q1 : pw_Q, pe N X 165 [.ref 35, .long (J 39 (((300 : Int32) * (Int32.ofNat s)) + (Int32.ofNat t)).toNatClampNeg), .int (I 35 6)] (ev_hp I J R T) Q1 ∧ ∀ (r : Option Value) (h1 : ez_H), Q1 r h1 → pw N X 190 294 [.ref 35, .int (Int32.ofNat s), .int (Int32.ofNat n), .int (Int32.ofNat kd), .int (Int32.ofNat t)] (r.toList ++ [.int (((300 : Int32) * (Int32.ofNat s)) + (Int32.ofNat t)), .ref 40]) h1 Q))))) : pw (N + 1) X 190 255 [.ref 35, .int (Int32.ofNat s), .int (Int32.ofNat n), .int (Int32.ofNat kd), .int (Int32.ofNat t)] [] (ev_hp I J R T) Q := by
  refine pw_if (by decide) (fun _ _ => fd_r38) (fun w1 => ?_) (fun w1 => ?_)
  · have h1 := H.1 w1
    exact pw_p (pw_ret (by decide) (fun _ _ => fd_r39) h1)
  · have h1 := H.2 w1
    refine pw_p (pw_seg (by decide) (fun _ _ => fd_r40) ?_)
    refine pw_p (pw_seg (by decide) (fun _ _ => fd_r41) ?_)
    refine pw_p (pw_lald (by rfl) (cx_getJ (show cx_Ds[39]? = some (1, 900, []) from rfl)) (fun w2 => ?_))
    have h2 := h1 w2
    refine pw_p (pw_seg (by decide) (fun _ _ => fd_r42) ?_)
    obtain ⟨Q1, hc, hk⟩ := h2
    exact pw_p (pw_call (by decide) (fun _ _ => fd_r43) hc hk)
set_option maxRecDepth 100000 in
theorem fd_r44 {a0 : Int32} {a1 : Int32} {a2 : Int32} {a3 : Int32} : ∀ G : ez_F, fx_up X 2 G 190 295 [.ref 35, .int a0, .int a1, .int a2, .int a3] [] (ev_hp I J R T) cz kz = G 190 255 [.ref 35, .int a0, .int a1, .int a2, .int (a3 + (1 : Int32))] [] (ev_hp I J R T) cz kz := by
  intro G
  rfl
theorem fd_294 {s n kd t : Nat} {v : Int64} {i : Int32}
    (H : (ev_ix i 900 → pw N X 190 255 [.ref 35, .int (Int32.ofNat s), .int (Int32.ofNat n), .int (Int32.ofNat kd), .int ((Int32.ofNat t) + (1 : Int32))] [] (ev_hp I (ev_sJ J 40 (vp_updL (J 40) i.toNatClampNeg v)) R T) Q)) : pw (N + 1) X 190 294 [.ref 35, .int (Int32.ofNat s), .int (Int32.ofNat n), .int (Int32.ofNat kd), .int (Int32.ofNat t)] [.long v, .int i, .ref 40] (ev_hp I J R T) Q := by
  refine pw_last (by rfl) (cx_getJ (show cx_Ds[40]? = some (1, 900, []) from rfl)) (cx_setJ (show cx_Ds[40]? = some (1, 900, []) from rfl) _) (fun w1 => ?_)
  have h1 := H w1
  refine pw_p (pw_seg (by decide) (fun _ _ => fd_r44) ?_)
  exact h1
end
/-- what the row holds within a turn -/
noncomputable def rf_A (W H wr : Int32) (sh t m : Nat) (u : Int64) : Prop := sp_M W H wr sh t u ∨ (u ≠ 0 ∧ ∃ m', m' < m ∧ u = sp_u W H wr (pm (rt t) sh 16) m')
section
variable {W H wr : Int32} {sh t m : Nat}
theorem rf_A0 (u : Int64) : rf_A W H wr sh t 0 u ↔ sp_M W H wr sh t u := by
  constructor
  · rintro (h | ⟨_, m', h, _⟩)
    · exact h
    · omega
  · exact Or.inl
theorem rf_A100 (u : Int64) : rf_A W H wr sh t 100 u ↔ sp_M W H wr sh (t + 1) u := (sp_M1 u).symm
theorem rf_A1 (u : Int64) : rf_A W H wr sh t (m + 1) u ↔ rf_A W H wr sh t m u ∨ (u ≠ 0 ∧ u = sp_u W H wr (pm (rt t) sh 16) m) := by
  constructor
  · rintro (h | ⟨h0, m', h, e⟩)
    · exact Or.inl (Or.inl h)
    · by_cases hm : m' = m
      · rw [hm] at e
        exact Or.inr ⟨h0, e⟩
      · exact Or.inl (Or.inr ⟨h0, m', by omega, e⟩)
  · rintro ((h | ⟨h0, m', h, e⟩) | ⟨h0, e⟩)
    · exact Or.inl h
    · exact Or.inr ⟨h0, m', by omega, e⟩
    · exact Or.inr ⟨h0, m, by omega, e⟩
theorem rf_AM (hm : m ≤ 100) {u : Int64} (h : rf_A W H wr sh t m u) : sp_M W H wr sh (t + 1) u := by
  rw [sp_M1]
  rcases h with h | ⟨h0, m', h, e⟩
  · exact Or.inl h
  · exact Or.inr ⟨h0, m', by omega, e⟩
end
noncomputable def rf_row (J39 : Nat → Int64) (s n : Nat) (A : Int64 → Prop) (f : Nat → Int64) : Prop := srt f (300 * s) n ∧ n ≤ 288 ∧ (∀ w, inrow f (300 * s) n w ↔ A w) ∧ ∀ q, q < 300 * s ∨ 300 * s + 300 ≤ q → f q = J39 q
noncomputable def fd_Q (I : Nat → Nat → Int32) (J : Nat → Nat → Int64) (R : Nat → Nat) (T : List ez_C) (s sh K : Nat) : pw_Q := fun r h => r = none ∧ ∃ n f g, h = ev_hp (ev_sI I 38 (upd (I 38) s (Int32.ofNat n))) (ev_sJ (ev_sJ J 39 f) 40 g) R T ∧ rf_row (J 39) s n (sp_M (I 35 0) (I 35 1) (I 35 2) sh K) f ∧
  (∀ q, q < 300 * s ∨ 300 * s + 300 ≤ q → g q = J 40 q) ∧ ∀ a, a < n → g (300 * s + a) = ab_F (I 35 0) (I 35 1) (I 35 2) (I 35 6) (f (300 * s + a))
theorem i_300 {s : Nat} : (300 : Int32) * Int32.ofNat s = Int32.ofNat (300 * s) := io_mul 300 s
section
variable {N : Nat} {X : ez_X} {I : Nat → Nat → Int32} {J : Nat → Nat → Int64} {R : Nat → Nat} {T : List ez_C} {Q : pw_Q} {s sh kd t w n : Nat} {f : Nat → Int64} {v : Int64}
/-- one move: its set is put in its place -/
theorem rf_one (hs : s < 3) (hwr : I 35 2 = 0 ∨ I 35 2 = 1) (hW : 2 ≤ (I 35 0).toInt ∧ (I 35 0).toInt ≤ 6) (hH : 2 ≤ (I 35 1).toInt ∧ (I 35 1).toInt ≤ 6) (ht : t < 8) {m : Nat} (hm : m < 100)
    (hv : v = sp_u (I 35 0) (I 35 1) (I 35 2) (pm (rt t) sh 16) m) (h : rf_row (J 39) s n (rf_A (I 35 0) (I 35 1) (I 35 2) sh t m) f)
    (cont : ∀ (n' : Nat) (f' : Nat → Int64) (k : Nat) (e i : Int32), rf_row (J 39) s n' (rf_A (I 35 0) (I 35 1) (I 35 2) sh t (m + 1)) f' → pw N X 190 233 [.ref 35, .int (Int32.ofNat s), .int (Int32.ofNat n'), .int (Int32.ofNat kd), .int (Int32.ofNat t), .int (Int32.ofNat w), .int (Int32.ofNat m), .long v, ez_fill, .int (Int32.ofNat k), .int e, .int i] [] (ev_hp I (ev_sJ J 39 f') R T) Q) :
    pw N X 190 89 [.ref 35, .int (Int32.ofNat s), .int (Int32.ofNat n), .int (Int32.ofNat kd), .int (Int32.ofNat t), .int (Int32.ofNat w), .int (Int32.ofNat m), .long v, ez_fill, .int (Int32.ofNat n)] [] (ev_hp I (ev_sJ J 39 f) R T) Q := by
  obtain ⟨h1, h2, h3, h4⟩ := h
  have hAM : ∀ u, inrow f (300 * s) n u → sp_M (I 35 0) (I 35 1) (I 35 2) sh (t + 1) u := fun u hu => rf_AM (by omega) ((h3 u).mp hu)
  -- not a new one
  have old : ∀ (k : Nat) (i : Int32), (v = 0 ∨ inrow f (300 * s) n v) → pw N X 190 210 [.ref 35, .int (Int32.ofNat s), .int (Int32.ofNat n), .int (Int32.ofNat kd), .int (Int32.ofNat t), .int (Int32.ofNat w), .int (Int32.ofNat m), .long v, ez_fill, .int (Int32.ofNat k), .int (0 : Int32), .int i] [] (ev_hp I (ev_sJ J 39 f) R T) Q := by
    intro k i ho
    refine pw_p (fd_210 ⟨fun _ => cont n f k 0 i ⟨h1, h2, fun u => ?_, h4⟩, fun z => absurd rfl z⟩)
    rw [h3 u, rf_A1, ← hv]
    constructor
    · exact Or.inl
    · rintro (h | ⟨e0, e⟩)
      · exact h
      · rcases ho with ho | ho
        · exact absurd (e.trans ho) e0
        · rw [e]
          exact (h3 v).mp ho
  have old2 : ∀ (k : Nat), (v = 0 ∨ inrow f (300 * s) n v) → pw N X 190 164 [.ref 35, .int (Int32.ofNat s), .int (Int32.ofNat n), .int (Int32.ofNat kd), .int (Int32.ofNat t), .int (Int32.ofNat w), .int (Int32.ofNat m), .long v, ez_fill, .int (Int32.ofNat k), .int (0 : Int32), .int (Int32.ofNat n)] [] (ev_hp I (ev_sJ J 39 f) R T) Q := fun k ho =>
    pw_p (fd_164 ⟨fun _ => old k _ ho, fun _ => ⟨fun _ => old k _ ho, fun z => absurd rfl z⟩⟩)
  -- a new one
  have new : ∀ k, k ≤ n → v ≠ 0 → (∀ a : Nat, k ≤ a → a < n → v.toInt < (f (300 * s + a)).toInt) → (k = 0 ∨ (f (300 * s + (k - 1))).toInt < v.toInt) → ¬ inrow f (300 * s) n v →
      pw N X 190 164 [.ref 35, .int (Int32.ofNat s), .int (Int32.ofNat n), .int (Int32.ofNat kd), .int (Int32.ofNat t), .int (Int32.ofNat w), .int (Int32.ofNat m), .long v, ez_fill, .int (Int32.ofNat k), .int (1 : Int32), .int (Int32.ofNat n)] [] (ev_hp I (ev_sJ J 39 f) R T) Q := by
    intro k hk h0 hi lo hn
    have hn2 : n < 288 := sp_room hwr hW hH (by omega) h1 hAM (rf_AM (m := m + 1) (by omega) ((rf_A1 v).mpr (Or.inr ⟨h0, hv⟩))) hn
    have loop : ∀ (D i : Nat), k + D = i → i ≤ n → pw N X 190 164 [.ref 35, .int (Int32.ofNat s), .int (Int32.ofNat n), .int (Int32.ofNat kd), .int (Int32.ofNat t), .int (Int32.ofNat w), .int (Int32.ofNat m), .long v, ez_fill, .int (Int32.ofNat k), .int (1 : Int32), .int (Int32.ofNat i)] [] (ev_hp I (ev_sJ J 39 (rw_sh f (300 * s) i n)) R T) Q := by
      intro D
      induction D with
      | zero =>
        intro i hi1 hi2
        obtain rfl : i = k := by omega
        have go := cont (n + 1) (rw_ins f (300 * s) i n v) i 1 (Int32.ofNat i) ⟨srt_ins h1 hk hi lo, by omega, fun u => ?_, fun q hq => ?_⟩
        · refine pw_p (fd_164 ⟨fun _ => ?_, fun z => absurd ((io_le (by omega) (by omega)).mpr (Nat.le_refl i)) z⟩)
          refine pw_p (fd_210 ⟨fun z => absurd z (by decide), fun _ _ => ?_⟩)
          rw [io_1, i_300, io_add, ix_cl (by omega), cx_sJ_s, fs_sJ2]
          exact go
        · rw [in_ins hk u, h3 u, rf_A1, ← hv]
          constructor
          · rintro (h | h)
            · exact Or.inl h
            · exact Or.inr ⟨by rw [h]; exact h0, h⟩
          · rintro (h | h)
            · exact Or.inl h
            · exact Or.inr h.2
        · rw [rw_ins_out f v hk (by omega)]
          exact h4 q hq
      | succ D ih =>
        intro i hi1 hi2
        refine pw_p (fd_164 ⟨fun z => ?_, fun _ => ⟨fun z => absurd z (by decide), fun _ _ _ => ?_⟩⟩)
        · rw [io_le (by omega) (by omega)] at z
          omega
        · rw [io_dec (by omega), i_300, io_add, show (1 : Int32) = Int32.ofNat 1 from rfl, io_sub (by omega), ix_cl (by omega), ix_cl (by omega), cx_sJ_s, rw_sh_1 f (300 * s) i n (by omega) hi2, fs_sJ2]
          exact ih (i - 1) (by omega) (by omega)
    have h := loop (n - k) n (by omega) (Nat.le_refl n)
    rw [rw_sh_0] at h
    exact h
  -- from the place on
  have rest : ∀ k, k ≤ n → (∀ a : Nat, k ≤ a → a < n → v.toInt < (f (300 * s + a)).toInt) → (k = 0 ∨ (f (300 * s + (k - 1))).toInt ≤ v.toInt) →
      pw N X 190 121 [.ref 35, .int (Int32.ofNat s), .int (Int32.ofNat n), .int (Int32.ofNat kd), .int (Int32.ofNat t), .int (Int32.ofNat w), .int (Int32.ofNat m), .long v, ez_fill, .int (Int32.ofNat k)] [] (ev_hp I (ev_sJ J 39 f) R T) Q := by
    intro k hk hi lo
    have out : (k = 0 ∨ (f (300 * s + (k - 1))).toInt < v.toInt) → ¬ inrow f (300 * s) n v := by
      rintro lo2 ⟨a, ha, e⟩
      by_cases h5 : a < k
      · have := srt_below h1 hk lo2 a h5
        rw [e] at this
        omega
      · have := hi a (by omega) ha
        rw [e] at this
        omega
    refine pw_p (fd_121 ⟨fun z => ?_, fun z => ⟨fun z2 => ?_, fun z2 z3 => ⟨fun z4 => ?_, fun z4 => ?_⟩⟩⟩)
    · rw [lg_eq] at z
      exact old2 k (Or.inl z)
    · rw [lg_eq] at z
      rw [show (0 : Int32) = Int32.ofNat 0 from rfl, io_eq (by omega) (by omega)] at z2
      exact new k hk z hi (Or.inl z2) (out (Or.inl z2))
    · rw [show (0 : Int32) = Int32.ofNat 0 from rfl, io_eq (by omega) (by omega)] at z2
      rw [lg_eq, i_300, io_add, show (1 : Int32) = Int32.ofNat 1 from rfl, io_sub (by omega), ix_cl (by omega), cx_sJ_s] at z4
      exact old2 k (Or.inr ⟨k - 1, by omega, by rw [show 300 * s + (k - 1) = 300 * s + k - 1 by omega]; exact z4⟩)
    · rw [lg_eq] at z
      rw [show (0 : Int32) = Int32.ofNat 0 from rfl, io_eq (by omega) (by omega)] at z2
      rw [lg_eq, i_300, io_add, show (1 : Int32) = Int32.ofNat 1 from rfl, io_sub (by omega), ix_cl (by omega), cx_sJ_s] at z4
      have lo2 : k = 0 ∨ (f (300 * s + (k - 1))).toInt < v.toInt := by
        rcases lo with lo | lo
        · exact Or.inl lo
        · have h6 : ¬ (f (300 * s + (k - 1))).toInt = v.toInt := fun e => z4 (by rw [show 300 * s + k - 1 = 300 * s + (k - 1) by omega]; exact Int64.toInt_inj.mp e)
          exact Or.inr (by omega)
      exact new k hk z hi lo2 (out lo2)
  -- to the place
  have loop : ∀ k, k ≤ n → (∀ a : Nat, k ≤ a → a < n → v.toInt < (f (300 * s + a)).toInt) →
      pw N X 190 89 [.ref 35, .int (Int32.ofNat s), .int (Int32.ofNat n), .int (Int32.ofNat kd), .int (Int32.ofNat t), .int (Int32.ofNat w), .int (Int32.ofNat m), .long v, ez_fill, .int (Int32.ofNat k)] [] (ev_hp I (ev_sJ J 39 f) R T) Q := by
    intro k
    induction k with
    | zero =>
      intro hk hi
      refine pw_p (fd_89 ⟨fun _ => rest 0 hk hi (Or.inl rfl), fun z => absurd ((io_le0 (by omega)).mpr rfl) z⟩)
    | succ k ih =>
      intro hk hi
      refine pw_p (fd_89 ⟨fun z => ?_, fun _ _ => ⟨fun z => ?_, fun z => ?_⟩⟩)
      · rw [io_le0 (by omega)] at z
        omega
      · rw [lg_le, i_300, io_add, show (1 : Int32) = Int32.ofNat 1 from rfl, io_sub (by omega), ix_cl (by omega), cx_sJ_s] at z
        exact rest (k + 1) hk hi (Or.inr z)
      · rw [lg_le, i_300, io_add, show (1 : Int32) = Int32.ofNat 1 from rfl, io_sub (by omega), ix_cl (by omega), cx_sJ_s] at z
        rw [io_dec (by omega)]
        refine ih (by omega) fun a h5 h6 => ?_
        by_cases h7 : a = k
        · rw [h7]
          rw [show 300 * s + (k + 1) - 1 = 300 * s + k by omega] at z
          omega
        · exact hi a (by omega) h6
  exact loop n (Nat.le_refl n) fun a h5 h6 => by omega
theorem pe_find {tn : Nat} (hs : s < 3) (hwr : I 35 2 = 0 ∨ I 35 2 = 1) (hW : 2 ≤ (I 35 0).toInt ∧ (I 35 0).toInt ≤ 6) (hH : 2 ≤ (I 35 1).toInt ∧ (I 35 1).toInt ≤ 6) (hsh : sh < 65536) (htn : tn < 3) (h36 : I 36 s = Int32.ofNat sh) (h37 : I 37 s = Int32.ofNat tn) :
    pe N X 190 [.ref 35, .int (Int32.ofNat s)] (ev_hp I J R T) (fd_Q I J R T s sh (sp_k tn)) := by
  have e0 : (0 : Int32).toInt = 0 := by decide
  have hnW : ¬ I 35 0 = 0 := fun z => by rw [z, e0] at hW; omega
  have hnH : ¬ I 35 1 = 0 := fun z => by rw [z, e0] at hH; omega
  have hk8 := sp_k8 tn
  have hcell : 0 ≤ (I 35 0 * I 35 1).toInt ∧ (I 35 0 * I 35 1).toInt < 900 := by
    have m0 : 0 ≤ (I 35 0).toInt * (I 35 1).toInt := Int.mul_nonneg (by omega) (by omega)
    have m1 : (I 35 0).toInt * (I 35 1).toInt ≤ 6 * 6 := Int.mul_le_mul hW.2 hH.2 (by omega) (by decide)
    rw [Int32.toInt_mul, cx_bm32]
    · omega
    · simp only [cx_i32]; omega
  -- the barred cells of each spot
  have fill : ∀ (n : Nat) (f : Nat → Int64), rf_row (J 39) s n (sp_M (I 35 0) (I 35 1) (I 35 2) sh (sp_k tn)) f → ∀ (D a : Nat) (g : Nat → Int64), a + D = n → (∀ q, q < 300 * s ∨ 300 * s + 300 ≤ q → g q = J 40 q) → (∀ b, b < a → g (300 * s + b) = ab_F (I 35 0) (I 35 1) (I 35 2) (I 35 6) (f (300 * s + b))) →
      pw N X 190 255 [.ref 35, .int (Int32.ofNat s), .int (Int32.ofNat n), .int (Int32.ofNat (sp_k tn)), .int (Int32.ofNat a)] [] (ev_hp (ev_sI I 38 (upd (I 38) s (Int32.ofNat n))) (ev_sJ (ev_sJ J 39 f) 40 g) R T) (fd_Q I J R T s sh (sp_k tn)) := by
    intro n f hrow D
    have hn := hrow.2.1
    induction D with
    | zero =>
      intro a g ha h1 h2
      refine pw_p (fd_255 ⟨fun _ => ⟨rfl, n, f, g, rfl, hrow, h1, fun b hb => h2 b (by omega)⟩, fun z => absurd ((io_le (by omega) (by omega)).mpr (by omega)) z⟩)
    | succ D ih =>
      intro a g ha h1 h2
      refine pw_p (fd_255 ⟨fun z => ?_, fun _ _ => ?_⟩)
      · rw [io_le (by omega) (by omega)] at z
        omega
      · rw [i_300, io_add, ix_cl (by omega), cx_sJ_n _ _ (by decide), cx_sJ_s, cx_sI_n _ _ (show (35 : Nat) ≠ 38 by decide)]
        refine ⟨_, pe_about (by rw [cx_sI_n _ _ (show (35 : Nat) ≠ 38 by decide)]; exact hcell), ?_⟩
        rintro r h ⟨rfl, rfl⟩
        refine pw_p (fd_294 fun _ => ?_)
        rw [io_1, ix_cl (by omega), cx_sJ_s, fs_sJ2, cx_sI_n _ _ (show (35 : Nat) ≠ 38 by decide)]
        refine ih (a + 1) _ (by omega) (fun q hq => ?_) (fun b hb => ?_)
        · rw [updL_n _ _ (by omega)]
          exact h1 q hq
        · by_cases hba : b = a
          · rw [hba, updL_s]
          · rw [updL_n _ _ (by omega)]
            exact h2 b (by omega)
  -- the turns
  have turns : ∀ (D t n : Nat) (f : Nat → Int64), t + D = sp_k tn → rf_row (J 39) s n (sp_M (I 35 0) (I 35 1) (I 35 2) sh t) f →
      pw N X 190 35 [.ref 35, .int (Int32.ofNat s), .int (Int32.ofNat n), .int (Int32.ofNat (sp_k tn)), .int (Int32.ofNat t)] [] (ev_hp I (ev_sJ J 39 f) R T) (fd_Q I J R T s sh (sp_k tn)) := by
    intro D
    induction D with
    | zero =>
      intro t n f ht hrow
      obtain rfl : t = sp_k tn := by omega
      refine pw_p (fd_35 ⟨fun _ _ => ?_, fun z => absurd ((io_le (by omega) (by omega)).mpr (Nat.le_refl _)) z⟩)
      rw [ix_cl (by omega)]
      have h := fill n f hrow n 0 (J 40) (by omega) (fun _ _ => rfl) (fun b hb => by omega)
      have e40 : ev_sJ (ev_sJ J 39 f) 40 (J 40) = ev_sJ J 39 f := by
        have := fs_sJ_self (ev_sJ J 39 f) 40
        rw [cx_sJ_n _ _ (show (40 : Nat) ≠ 39 by decide)] at this
        exact this
      rw [e40] at h
      exact h
    | succ D ih =>
      intro t n f ht hrow
      refine pw_p (fd_35 ⟨fun z => ?_, fun _ _ => ?_⟩)
      · rw [io_le (by omega) (by omega)] at z
        omega
      rw [ix_cl (by omega), h36]
      refine ⟨_, pe_is (ex_tu X _ _ R T hsh (show t < 8 by omega)), ?_⟩
      rintro r h ⟨rfl, rfl⟩
      refine pw_p (fd_52 ?_)
      -- the moves
      have moves : ∀ (E m n : Nat) (f : Nat → Int64), m + E = 100 → rf_row (J 39) s n (rf_A (I 35 0) (I 35 1) (I 35 2) sh t m) f →
          pw N X 190 57 [.ref 35, .int (Int32.ofNat s), .int (Int32.ofNat n), .int (Int32.ofNat (sp_k tn)), .int (Int32.ofNat t), .int (Int32.ofNat (pm (rt t) sh 16)), .int (Int32.ofNat m)] [] (ev_hp I (ev_sJ J 39 f) R T) (fd_Q I J R T s sh (sp_k tn)) := by
        intro E
        induction E with
        | zero =>
          intro m n f hm hrow
          obtain rfl : m = 100 := by omega
          refine pw_p (fd_57 ⟨fun _ => ?_, fun z => absurd (by decide) z⟩)
          rw [io_1]
          exact ih (t + 1) n f (by omega) ⟨hrow.1, hrow.2.1, fun w => (hrow.2.2.1 w).trans (rf_A100 w), hrow.2.2.2⟩
        | succ E ih2 =>
          intro m n f hm hrow
          refine pw_p (fd_57 ⟨fun z => ?_, fun _ _ _ => ?_⟩)
          · rw [show (100 : Int32) = Int32.ofNat 100 from rfl, io_le (by omega) (by omega)] at z
            omega
          refine ⟨_, pe_is (eh_mv X _ _ R T _ _ _ hnW hnH), ?_⟩
          rintro r h ⟨rfl, rfl⟩
          refine pw_p (fd_84 ?_)
          refine rf_one (sh := sh) hs hwr hW hH (by omega) (by omega) rfl hrow fun n' f' k e i hrow' => ?_
          refine pw_p (fd_233 ?_)
          rw [io_1]
          exact ih2 (m + 1) n' f' (by omega) hrow'
      exact moves 100 0 n f rfl ⟨hrow.1, hrow.2.1, fun w => (hrow.2.2.1 w).trans (rf_A0 w).symm, hrow.2.2.2⟩
  have start := turns (sp_k tn) 0 0 (J 39) (Nat.zero_add _) ⟨fun a b _ h => by omega, by omega, fun w => ⟨fun ⟨a, h, _⟩ => by omega, fun h => absurd h (sp_M0 w)⟩, fun _ _ => rfl⟩
  rw [fs_sJ_self] at start
  refine pe_of (pw_p (fd_0 fun _ => ?_))
  rw [ix_cl (by omega), h37]
  refine ⟨fun z => fun _ => ⟨fun z2 => ?_, fun z2 => ?_⟩, fun z => ?_⟩
  · have e : sp_k tn = 8 := by
      unfold sp_k
      rw [if_neg fun h => z (by rw [h]; rfl), if_neg fun h => z2 (by rw [h]; rfl)]
    rw [e] at start ⊢
    exact start
  · have h := Classical.not_not.mp z2
    rw [show (1 : Int32) = Int32.ofNat 1 from rfl, io_eq (by omega) (by omega)] at h
    subst h
    exact start
  · have h := Classical.not_not.mp z
    rw [show (0 : Int32) = Int32.ofNat 0 from rfl, io_eq (by omega) (by omega)] at h
    subst h
    exact start
end
end
section
/-! Ships and their spots: what the calls of both sides come to. -/
section
variable {N : Nat} {X : ez_X} {I : Nat → Nat → Int32} {J : Nat → Nat → Int64} {R : Nat → Nat} {T : List ez_C} {Q : pw_Q} {cz kz : Nat}
set_option maxRecDepth 100000 in
theorem fx_r0 {a0 : Int32} : ∀ G : ez_F, fx_up X 3 G 94 0 [.ref 3, .int a0] [] (ev_hp I J R T) cz kz = G 94 5 [.ref 3, .int a0] [.int (I 3 3), .int a0] (ev_hp I J R T) cz kz := by
  intro G
  rfl
set_option maxRecDepth 100000 in
theorem fx_r1 {a0 : Int32} {a1 : Int32} {a2 : Int32} : ∀ G : ez_F, fx_up X 1 G 94 5 [.ref 3, .int a0] [.int a1, .int a2] (ev_hp I J R T) cz kz = bif decide (a1 ≤ a2) then G 94 19 [.ref 3, .int a0] [] (ev_hp I J R T) cz kz else G 94 8 [.ref 3, .int a0] [] (ev_hp I J R T) cz kz := by
  intro G
  rfl
set_option maxRecDepth 100000 in
theorem fx_r2 {a0 : Int32} : ∀ G : ez_F, fx_up X 2 G 94 19 [.ref 3, .int a0] [] (ev_hp I J R T) cz kz = some (some (.int (1 : Int32)), (ev_hp I J R T), cz, kz) := by
  intro G
  rfl
set_option maxRecDepth 100000 in
theorem fx_r3 {a0 : Int32} : ∀ G : ez_F, fx_up X 4 G 94 8 [.ref 3, .int a0] [] (ev_hp I J R T) cz kz = ev_C G 3 [.ref 5, .int a0] (ev_hp I J R T) fun r h1 c1 k1 => G 94 16 [.ref 3, .int a0] (r.toList ++ []) h1 (cz + c1) (kz + k1) := by
  intro G
  rfl
set_option maxRecDepth 100000 in
theorem fx_r4 {a0 : Int32} {a1 : Int32} : ∀ G : ez_F, fx_up X 2 G 94 16 [.ref 3, .int a0] [.int a1] (ev_hp I J R T) cz kz = some (some (.int a1), (ev_hp I J R T), cz, kz) := by
  intro G
  rfl
theorem sz_0 {s : Int32}
    (H : (((I 3 3) ≤ s → Q (some (.int (1 : Int32))) (ev_hp I J R T)) ∧ (¬ ((I 3 3) ≤ s) → Q (some (.int (ev_at 3 (I 5) s))) (ev_hp I J R T)))) : pw (N + 1) X 94 0 [.ref 3, .int s] [] (ev_hp I J R T) Q := by
  refine pw_seg (by decide) (fun _ _ => fx_r0) ?_
  refine pw_p (pw_if (by decide) (fun _ _ => fx_r1) (fun w1 => ?_) (fun w1 => ?_))
  · have h1 := H.1 w1
    exact pw_p (pw_ret (by decide) (fun _ _ => fx_r2) h1)
  · have h1 := H.2 w1
    refine pw_p (pw_callp (by decide) (fun _ _ => fx_r3) (pe_at (show cx_Ds[5]? = some (0, 3, []) from rfl) (by decide)) ?_)
    exact pw_p (pw_ret (by decide) (fun _ _ => fx_r4) h1)
set_option maxRecDepth 100000 in
theorem fx_r5 {a0 : Int32} {a1 : Int32} : ∀ G : ez_F, fx_up X 9 G 86 0 [.ref 3, .int a0, .int a1] [] (ev_hp I J R T) cz kz = G 86 13 [.ref 3, .int a0, .int a1, .int (((288 : Int32) * a0) + a1)] [.int (I 3 3), .int a0] (ev_hp I J R T) cz kz := by
  intro G
  rfl
set_option maxRecDepth 100000 in
theorem fx_r6 {a0 : Int32} {a1 : Int32} {a2 : Int32} {a3 : Int32} {a4 : Int32} : ∀ G : ez_F, fx_up X 1 G 86 13 [.ref 3, .int a0, .int a1, .int a2] [.int a3, .int a4] (ev_hp I J R T) cz kz = bif decide (a3 ≤ a4) then G 86 38 [.ref 3, .int a0, .int a1, .int a2] [] (ev_hp I J R T) cz kz else G 86 16 [.ref 3, .int a0, .int a1, .int a2] [] (ev_hp I J R T) cz kz := by
  intro G
  rfl
set_option maxRecDepth 100000 in
theorem fx_r7 {a0 : Int32} {a1 : Int32} {a2 : Int32} : ∀ G : ez_F, fx_up X 2 G 86 38 [.ref 3, .int a0, .int a1, .int a2] [] (ev_hp I J R T) cz kz = some (some (.long (0 : Int64)), (ev_hp I J R T), cz, kz) := by
  intro G
  rfl
set_option maxRecDepth 100000 in
theorem fx_r8 {a0 : Int32} {a1 : Int32} {a2 : Int32} : ∀ G : ez_F, fx_up X 2 G 86 16 [.ref 3, .int a0, .int a1, .int a2] [] (ev_hp I J R T) cz kz = bif decide (a2 < (0 : Int32)) then G 86 38 [.ref 3, .int a0, .int a1, .int a2] [] (ev_hp I J R T) cz kz else G 86 20 [.ref 3, .int a0, .int a1, .int a2] [] (ev_hp I J R T) cz kz := by
  intro G
  rfl
set_option maxRecDepth 100000 in
theorem fx_r9 {a0 : Int32} {a1 : Int32} {a2 : Int32} : ∀ G : ez_F, fx_up X 3 G 86 20 [.ref 3, .int a0, .int a1, .int a2] [] (ev_hp I J R T) cz kz = G 86 25 [.ref 3, .int a0, .int a1, .int a2] [.ref 4, .int a2] (ev_hp I J R T) cz kz := by
  intro G
  rfl
set_option maxRecDepth 100000 in
theorem fx_r10 {a0 : Int32} {a1 : Int32} {a2 : Int32} {a3 : Int32} {a4 : Int32} : ∀ G : ez_F, fx_up X 1 G 86 26 [.ref 3, .int a0, .int a1, .int a2] [.int a3, .int a4] (ev_hp I J R T) cz kz = bif decide (a3 ≤ a4) then G 86 38 [.ref 3, .int a0, .int a1, .int a2] [] (ev_hp I J R T) cz kz else G 86 29 [.ref 3, .int a0, .int a1, .int a2] [] (ev_hp I J R T) cz kz := by
  intro G
  rfl
set_option maxRecDepth 100000 in
theorem fx_r11 {a0 : Int32} {a1 : Int32} {a2 : Int32} : ∀ G : ez_F, fx_up X 3 G 86 29 [.ref 3, .int a0, .int a1, .int a2] [] (ev_hp I J R T) cz kz = G 86 34 [.ref 3, .int a0, .int a1, .int a2] [.int a2, .ref 4] (ev_hp I J R T) cz kz := by
  intro G
  rfl
set_option maxRecDepth 100000 in
theorem fx_r12 {a0 : Int32} {a1 : Int32} {a2 : Int32} {a3 : Int64} : ∀ G : ez_F, fx_up X 2 G 86 35 [.ref 3, .int a0, .int a1, .int a2] [.long a3] (ev_hp I J R T) cz kz = some (some (.long a3), (ev_hp I J R T), cz, kz) := by
  intro G
  rfl
theorem cl_0 {s k : Int32}
    (H : (((I 3 3) ≤ s → Q (some (.long (0 : Int64))) (ev_hp I J R T)) ∧ (¬ ((I 3 3) ≤ s) → (((((288 : Int32) * s) + k) < (0 : Int32) → Q (some (.long (0 : Int64))) (ev_hp I J R T)) ∧ (¬ ((((288 : Int32) * s) + k) < (0 : Int32)) → (((Int32.ofNat 864) ≤ (((288 : Int32) * s) + k) → Q (some (.long (0 : Int64))) (ev_hp I J R T)) ∧ (¬ ((Int32.ofNat 864) ≤ (((288 : Int32) * s) + k)) → (ev_ix (((288 : Int32) * s) + k) 864 → Q (some (.long (J 4 (((288 : Int32) * s) + k).toNatClampNeg))) (ev_hp I J R T))))))))) : pw (N + 1) X 86 0 [.ref 3, .int s, .int k] [] (ev_hp I J R T) Q := by
  refine pw_seg (by decide) (fun _ _ => fx_r5) ?_
  refine pw_p (pw_if (by decide) (fun _ _ => fx_r6) (fun w1 => ?_) (fun w1 => ?_))
  · have h1 := H.1 w1
    exact pw_p (pw_ret (by decide) (fun _ _ => fx_r7) h1)
  · have h1 := H.2 w1
    refine pw_p (pw_if (by decide) (fun _ _ => fx_r8) (fun w2 => ?_) (fun w2 => ?_))
    · have h2 := h1.1 w2
      exact pw_p (pw_ret (by decide) (fun _ _ => fx_r7) h2)
    · have h2 := h1.2 w2
      refine pw_p (pw_seg (by decide) (fun _ _ => fx_r9) ?_)
      refine pw_p (pw_alenJ (by rfl) (cx_getJ (show cx_Ds[4]? = some (1, 864, []) from rfl)) ?_)
      refine pw_p (pw_if (by decide) (fun _ _ => fx_r10) (fun w3 => ?_) (fun w3 => ?_))
      · have h3 := h2.1 w3
        exact pw_p (pw_ret (by decide) (fun _ _ => fx_r7) h3)
      · have h3 := h2.2 w3
        refine pw_p (pw_seg (by decide) (fun _ _ => fx_r11) ?_)
        refine pw_p (pw_lald (by rfl) (cx_getJ (show cx_Ds[4]? = some (1, 864, []) from rfl)) (fun w4 => ?_))
        have h4 := h3 w4
        exact pw_p (pw_ret (by decide) (fun _ _ => fx_r12) h4)
end
noncomputable def sz_F (I : Nat → Nat → Int32) (s : Int32) : Int32 := if I 3 3 ≤ s then 1 else ev_at 3 (I 5) s
noncomputable def cl_F (I : Nat → Nat → Int32) (J : Nat → Nat → Int64) (s k : Int32) : Int64 := if I 3 3 ≤ s then 0 else if 288 * s + k < 0 then 0 else if Int32.ofNat 864 ≤ 288 * s + k then 0 else J 4 (288 * s + k).toNatClampNeg
section
variable {N : Nat} {X : ez_X} {I : Nat → Nat → Int32} {J : Nat → Nat → Int64} {R : Nat → Nat} {T : List ez_C} {s k : Int32}
theorem pe_sizeOf : pe N X 94 [.ref 3, .int s] (ev_hp I J R T) (fun r h => r = some (.int (sz_F I s)) ∧ h = ev_hp I J R T) := by
  unfold sz_F
  refine pe_of (pw_p (sz_0 ⟨fun h => ?_, fun h => ?_⟩))
  · rw [if_pos h]
    exact ⟨rfl, rfl⟩
  · rw [if_neg h]
    exact ⟨rfl, rfl⟩
theorem pe_cellsAt : pe N X 86 [.ref 3, .int s, .int k] (ev_hp I J R T) (fun r h => r = some (.long (cl_F I J s k)) ∧ h = ev_hp I J R T) := by
  unfold cl_F
  refine pe_of (pw_p (cl_0 ⟨fun h => ?_, fun h => ⟨fun h2 => ?_, fun h2 => ⟨fun h3 => ?_, fun h3 _ => ?_⟩⟩⟩))
  · rw [if_pos h]
    exact ⟨rfl, rfl⟩
  · rw [if_neg h, if_pos h2]
    exact ⟨rfl, rfl⟩
  · rw [if_neg h, if_neg h2, if_pos h3]
    exact ⟨rfl, rfl⟩
  · rw [if_neg h, if_neg h2, if_neg h3]
    exact ⟨rfl, rfl⟩
theorem sz_in {s ns : Nat} (h3 : I 3 3 = Int32.ofNat ns) (hs : s < ns) (hn : ns ≤ 3) : sz_F I (Int32.ofNat s) = I 5 s := by
  unfold sz_F
  rw [h3, if_neg (by rw [io_le (by omega) (by omega)]; omega), at_in (by omega) (by omega)]
theorem cl_in {s ns k : Nat} (h3 : I 3 3 = Int32.ofNat ns) (hs : s < ns) (hn : ns ≤ 3) (hk : k < 288) : cl_F I J (Int32.ofNat s) (Int32.ofNat k) = J 4 (288 * s + k) := by
  unfold cl_F
  rw [h3, if_neg (by rw [io_le (by omega) (by omega)]; omega), i_288, io_add, if_neg (by rw [show (0 : Int32) = Int32.ofNat 0 from rfl, io_lt (by omega) (by omega)]; omega), if_neg (by rw [io_le (by omega) (by omega)]; omega), ix_cl (by omega)]
end
section
variable {N : Nat} {X : ez_X} {I : Nat → Nat → Int32} {J : Nat → Nat → Int64} {R : Nat → Nat} {T : List ez_C} {Q : pw_Q} {cz kz : Nat}
set_option maxRecDepth 100000 in
theorem sx_r0 {a0 : Int32} {a1 : Int32} : ∀ G : ez_F, fx_up X 4 G 43 0 [.ref 0, .int a0, .int a1] [] (ev_hp I J R T) cz kz = ev_C G 55 [.int a0, .int (1 : Int32), .int (65535 : Int32)] (ev_hp I J R T) fun r h1 c1 k1 => G 43 7 [.ref 0, .int a0, .int a1] (r.toList ++ []) h1 (cz + c1) (kz + k1) := by
  intro G
  rfl
set_option maxRecDepth 100000 in
theorem sx_r1 {a0 : Int32} {a1 : Int32} {a2 : Int32} : ∀ G : ez_F, fx_up X 1 G 43 7 [.ref 0, .int a0, .int a1] [.int a2] (ev_hp I J R T) cz kz = bif decide (a2 = (0 : Int32)) then G 43 27 [.ref 0, .int a0, .int a1] [] (ev_hp I J R T) cz kz else G 43 10 [.ref 0, .int a0, .int a1] [] (ev_hp I J R T) cz kz := by
  intro G
  rfl
set_option maxRecDepth 100000 in
theorem sx_r2 {a0 : Int32} {a1 : Int32} : ∀ G : ez_F, fx_up X 2 G 43 27 [.ref 0, .int a0, .int a1] [] (ev_hp I J R T) cz kz = some (some (.int (-3 : Int32)), (ev_hp I J R T), cz, kz) := by
  intro G
  rfl
set_option maxRecDepth 100000 in
theorem sx_r3 {a0 : Int32} {a1 : Int32} : ∀ G : ez_F, fx_up X 2 G 43 10 [.ref 0, .int a0, .int a1] [] (ev_hp I J R T) cz kz = ev_C G 234 [.int a0] (ev_hp I J R T) fun r h1 c1 k1 => G 43 14 [.ref 0, .int a0, .int a1] (r.toList ++ []) h1 (cz + c1) (kz + k1) := by
  intro G
  rfl
set_option maxRecDepth 100000 in
theorem sx_r4 {a0 : Int32} {a1 : Int32} {a2 : Int32} : ∀ G : ez_F, fx_up X 2 G 43 14 [.ref 0, .int a0, .int a1] [.int a2] (ev_hp I J R T) cz kz = bif decide ((5 : Int32) < a2) then G 43 27 [.ref 0, .int a0, .int a1] [] (ev_hp I J R T) cz kz else G 43 18 [.ref 0, .int a0, .int a1] [] (ev_hp I J R T) cz kz := by
  intro G
  rfl
set_option maxRecDepth 100000 in
theorem sx_r5 {a0 : Int32} {a1 : Int32} : ∀ G : ez_F, fx_up X 4 G 43 18 [.ref 0, .int a0, .int a1] [] (ev_hp I J R T) cz kz = ev_C G 55 [.int a1, .int (0 : Int32), .int (2 : Int32)] (ev_hp I J R T) fun r h1 c1 k1 => G 43 24 [.ref 0, .int a0, .int a1] (r.toList ++ []) h1 (cz + c1) (kz + k1) := by
  intro G
  rfl
set_option maxRecDepth 100000 in
theorem sx_r6 {a0 : Int32} {a1 : Int32} {a2 : Int32} : ∀ G : ez_F, fx_up X 1 G 43 24 [.ref 0, .int a0, .int a1] [.int a2] (ev_hp I J R T) cz kz = bif decide (¬ a2 = (0 : Int32)) then G 43 30 [.ref 0, .int a0, .int a1] [] (ev_hp I J R T) cz kz else G 43 27 [.ref 0, .int a0, .int a1] [] (ev_hp I J R T) cz kz := by
  intro G
  rfl
set_option maxRecDepth 100000 in
theorem sx_r7 {a0 : Int32} {a1 : Int32} : ∀ G : ez_F, fx_up X 3 G 43 30 [.ref 0, .int a0, .int a1] [] (ev_hp I J R T) cz kz = G 43 37 [.ref 0, .int a0, .int a1] [.int (I 8 1)] (ev_hp I J R T) cz kz := by
  intro G
  rfl
set_option maxRecDepth 100000 in
theorem sx_r8 {a0 : Int32} {a1 : Int32} {a2 : Int32} : ∀ G : ez_F, fx_up X 1 G 43 37 [.ref 0, .int a0, .int a1] [.int a2] (ev_hp I J R T) cz kz = bif decide (a2 ≤ (0 : Int32)) then G 43 43 [.ref 0, .int a0, .int a1] [] (ev_hp I J R T) cz kz else G 43 40 [.ref 0, .int a0, .int a1] [] (ev_hp I J R T) cz kz := by
  intro G
  rfl
set_option maxRecDepth 100000 in
theorem sx_r9 {a0 : Int32} {a1 : Int32} : ∀ G : ez_F, fx_up X 3 G 43 43 [.ref 0, .int a0, .int a1] [] (ev_hp I J R T) cz kz = G 43 50 [.ref 0, .int a0, .int a1] [.int (I 3 3)] (ev_hp I J R T) cz kz := by
  intro G
  rfl
set_option maxRecDepth 100000 in
theorem sx_r10 {a0 : Int32} {a1 : Int32} {a2 : Int32} : ∀ G : ez_F, fx_up X 2 G 43 50 [.ref 0, .int a0, .int a1] [.int a2] (ev_hp I J R T) cz kz = bif decide (a2 < (3 : Int32)) then G 43 57 [.ref 0, .int a0, .int a1] [] (ev_hp I J R T) cz kz else G 43 54 [.ref 0, .int a0, .int a1] [] (ev_hp I J R T) cz kz := by
  intro G
  rfl
set_option maxRecDepth 100000 in
theorem sx_r11 {a0 : Int32} {a1 : Int32} : ∀ G : ez_F, fx_up X 5 G 43 57 [.ref 0, .int a0, .int a1] [] (ev_hp I J R T) cz kz = ev_C G 85 [.ref 3, .int a0, .int a1] (ev_hp I J R T) fun r h1 c1 k1 => G 43 66 [.ref 0, .int a0, .int a1] (r.toList ++ []) h1 (cz + c1) (kz + k1) := by
  intro G
  rfl
set_option maxRecDepth 100000 in
theorem sx_r12 {a0 : Int32} {a1 : Int32} : ∀ G : ez_F, fx_up X 2 G 43 54 [.ref 0, .int a0, .int a1] [] (ev_hp I J R T) cz kz = some (some (.int (-5 : Int32)), (ev_hp I J R T), cz, kz) := by
  intro G
  rfl
set_option maxRecDepth 100000 in
theorem sx_r13 {a0 : Int32} {a1 : Int32} : ∀ G : ez_F, fx_up X 2 G 43 40 [.ref 0, .int a0, .int a1] [] (ev_hp I J R T) cz kz = some (some (.int (-4 : Int32)), (ev_hp I J R T), cz, kz) := by
  intro G
  rfl
theorem sx_0 {x y : Int32}
    (H : (((ev_wi x (1 : Int32) (65535 : Int32)) = (0 : Int32) → Q (some (.int (-3 : Int32))) (ev_hp I J R T)) ∧ (¬ ((ev_wi x (1 : Int32) (65535 : Int32)) = (0 : Int32)) → (((5 : Int32) < (ev_bcI x) → Q (some (.int (-3 : Int32))) (ev_hp I J R T)) ∧ (¬ ((5 : Int32) < (ev_bcI x)) → ((¬ (ev_wi y (0 : Int32) (2 : Int32)) = (0 : Int32) → (((I 8 1) ≤ (0 : Int32) → (((I 3 3) < (3 : Int32) → (∃ Q1 : pw_Q, pe N X 85 [.ref 3, .int x, .int y] (ev_hp I J R T) Q1 ∧ ∀ (r : Option Value) (h1 : ez_H), Q1 r h1 → pw N X 43 66 [.ref 0, .int x, .int y] (r.toList ++ []) h1 Q)) ∧ (¬ ((I 3 3) < (3 : Int32)) → Q (some (.int (-5 : Int32))) (ev_hp I J R T)))) ∧ (¬ ((I 8 1) ≤ (0 : Int32)) → Q (some (.int (-4 : Int32))) (ev_hp I J R T)))) ∧ (¬ (¬ (ev_wi y (0 : Int32) (2 : Int32)) = (0 : Int32)) → Q (some (.int (-3 : Int32))) (ev_hp I J R T)))))))) : pw (N + 1) X 43 0 [.ref 0, .int x, .int y] [] (ev_hp I J R T) Q := by
  refine pw_callp (by decide) (fun _ _ => sx_r0) (pe_is (ec_within _ _ _ _ _)) ?_
  refine pw_p (pw_if (by decide) (fun _ _ => sx_r1) (fun w1 => ?_) (fun w1 => ?_))
  · have h1 := H.1 w1
    exact pw_p (pw_ret (by decide) (fun _ _ => sx_r2) h1)
  · have h1 := H.2 w1
    refine pw_p (pw_callp (by decide) (fun _ _ => sx_r3) (pe_is (ec_bcI _ _ _)) ?_)
    refine pw_p (pw_if (by decide) (fun _ _ => sx_r4) (fun w2 => ?_) (fun w2 => ?_))
    · have h2 := h1.1 w2
      exact pw_p (pw_ret (by decide) (fun _ _ => sx_r2) h2)
    · have h2 := h1.2 w2
      refine pw_p (pw_callp (by decide) (fun _ _ => sx_r5) (pe_is (ec_within _ _ _ _ _)) ?_)
      refine pw_p (pw_if (by decide) (fun _ _ => sx_r6) (fun w3 => ?_) (fun w3 => ?_))
      · have h3 := h2.1 w3
        refine pw_p (pw_seg (by decide) (fun _ _ => sx_r7) ?_)
        refine pw_p (pw_if (by decide) (fun _ _ => sx_r8) (fun w4 => ?_) (fun w4 => ?_))
        · have h4 := h3.1 w4
          refine pw_p (pw_seg (by decide) (fun _ _ => sx_r9) ?_)
          refine pw_p (pw_if (by decide) (fun _ _ => sx_r10) (fun w5 => ?_) (fun w5 => ?_))
          · have h5 := h4.1 w5
            obtain ⟨Q1, hc, hk⟩ := h5
            exact pw_p (pw_call (by decide) (fun _ _ => sx_r11) hc hk)
          · have h5 := h4.2 w5
            exact pw_p (pw_ret (by decide) (fun _ _ => sx_r12) h5)
        · have h4 := h3.2 w4
          exact pw_p (pw_ret (by decide) (fun _ _ => sx_r13) h4)
      · have h3 := h2.2 w3
        exact pw_p (pw_ret (by decide) (fun _ _ => sx_r2) h3)
set_option maxRecDepth 100000 in
theorem sx_r14 {a0 : Int32} {a1 : Int32} {a2 : Int32} : ∀ G : ez_F, fx_up X 3 G 43 66 [.ref 0, .int a0, .int a1] [.int a2] (ev_hp I J R T) cz kz = ev_C G 28 [.ref 0] (ev_hp I J R T) fun r h1 c1 k1 => G 43 71 [.ref 0, .int a0, .int a1, .int a2] (r.toList ++ []) h1 (cz + c1) (kz + k1) := by
  intro G
  rfl
theorem sx_66 {x y v : Int32}
    (H : (∃ Q1 : pw_Q, pe N X 28 [.ref 0] (ev_hp I J R T) Q1 ∧ ∀ (r : Option Value) (h1 : ez_H), Q1 r h1 → pw N X 43 71 [.ref 0, .int x, .int y, .int v] (r.toList ++ []) h1 Q)) : pw (N + 1) X 43 66 [.ref 0, .int x, .int y] [.int v] (ev_hp I J R T) Q := by
  obtain ⟨Q1, hc, hk⟩ := H
  exact pw_call (by decide) (fun _ _ => sx_r14) hc hk
set_option maxRecDepth 100000 in
theorem sx_r15 {a0 : Int32} {a1 : Int32} {a2 : Int32} : ∀ G : ez_F, fx_up X 2 G 43 71 [.ref 0, .int a0, .int a1, .int a2] [] (ev_hp I J R T) cz kz = some (some (.int a2), (ev_hp I J R T), cz, kz) := by
  intro G
  rfl
theorem sx_71 {x y v : Int32}
    (H : Q (some (.int v)) (ev_hp I J R T)) : pw (N + 1) X 43 71 [.ref 0, .int x, .int y, .int v] [] (ev_hp I J R T) Q := by
  exact pw_ret (by decide) (fun _ _ => sx_r15) H
end
section
variable {N : Nat} {X : ez_X} {I : Nat → Nat → Int32} {J : Nat → Nat → Int64} {R : Nat → Nat} {T : List ez_C} {Q : pw_Q} {cz kz : Nat}
set_option maxRecDepth 100000 in
theorem sq_r0 {a0 : Int32} : ∀ G : ez_F, fx_up X 3 G 46 0 [.ref 0, .int a0] [] (ev_hp I J R T) cz kz = ev_C G 25 [.ref 0, .int a0] (ev_hp I J R T) fun r h1 c1 k1 => G 46 5 [.ref 0, .int a0] (r.toList ++ []) h1 (cz + c1) (kz + k1) := by
  intro G
  rfl
set_option maxRecDepth 100000 in
theorem sq_r1 {a0 : Int32} {a1 : Int32} : ∀ G : ez_F, fx_up X 1 G 46 5 [.ref 0, .int a0] [.int a1] (ev_hp I J R T) cz kz = bif decide (a1 = (0 : Int32)) then G 46 19 [.ref 0, .int a0] [] (ev_hp I J R T) cz kz else G 46 8 [.ref 0, .int a0] [] (ev_hp I J R T) cz kz := by
  intro G
  rfl
set_option maxRecDepth 100000 in
theorem sq_r2 {a0 : Int32} : ∀ G : ez_F, fx_up X 2 G 46 19 [.ref 0, .int a0] [] (ev_hp I J R T) cz kz = some (some (.int (-2 : Int32)), (ev_hp I J R T), cz, kz) := by
  intro G
  rfl
set_option maxRecDepth 100000 in
theorem sq_r3 {a0 : Int32} : ∀ G : ez_F, fx_up X 4 G 46 8 [.ref 0, .int a0] [] (ev_hp I J R T) cz kz = ev_C G 94 [.ref 3, .int a0] (ev_hp I J R T) fun r h1 c1 k1 => G 46 16 [.ref 0, .int a0] (r.toList ++ []) h1 (cz + c1) (kz + k1) := by
  intro G
  rfl
set_option maxRecDepth 100000 in
theorem sq_r4 {a0 : Int32} {a1 : Int32} : ∀ G : ez_F, fx_up X 2 G 46 16 [.ref 0, .int a0] [.int a1] (ev_hp I J R T) cz kz = some (some (.int a1), (ev_hp I J R T), cz, kz) := by
  intro G
  rfl
theorem sq_0 {x : Int32}
    (H : (((ev_wi x (0 : Int32) ((I 3 3) - (1 : Int32))) = (0 : Int32) → Q (some (.int (-2 : Int32))) (ev_hp I J R T)) ∧ (¬ ((ev_wi x (0 : Int32) ((I 3 3) - (1 : Int32))) = (0 : Int32)) → Q (some (.int (sz_F I x))) (ev_hp I J R T)))) : pw (N + 1) X 46 0 [.ref 0, .int x] [] (ev_hp I J R T) Q := by
  refine pw_callp (by decide) (fun _ _ => sq_r0) (pe_is (eg_isShip _ _ _ _ _ _)) ?_
  refine pw_p (pw_if (by decide) (fun _ _ => sq_r1) (fun w1 => ?_) (fun w1 => ?_))
  · have h1 := H.1 w1
    exact pw_p (pw_ret (by decide) (fun _ _ => sq_r2) h1)
  · have h1 := H.2 w1
    refine pw_p (pw_callp (by decide) (fun _ _ => sq_r3) (pe_sizeOf) ?_)
    exact pw_p (pw_ret (by decide) (fun _ _ => sq_r4) h1)
set_option maxRecDepth 100000 in
theorem sq_r5 {a0 : Int32} {a1 : Int32} : ∀ G : ez_F, fx_up X 3 G 44 0 [.ref 0, .int a0, .int a1] [] (ev_hp I J R T) cz kz = ev_C G 25 [.ref 0, .int a0] (ev_hp I J R T) fun r h1 c1 k1 => G 44 5 [.ref 0, .int a0, .int a1] (r.toList ++ []) h1 (cz + c1) (kz + k1) := by
  intro G
  rfl
set_option maxRecDepth 100000 in
theorem sq_r6 {a0 : Int32} {a1 : Int32} {a2 : Int32} : ∀ G : ez_F, fx_up X 1 G 44 5 [.ref 0, .int a0, .int a1] [.int a2] (ev_hp I J R T) cz kz = bif decide (¬ a2 = (0 : Int32)) then G 44 12 [.ref 0, .int a0, .int a1] [] (ev_hp I J R T) cz kz else G 44 8 [.ref 0, .int a0, .int a1] [] (ev_hp I J R T) cz kz := by
  intro G
  rfl
set_option maxRecDepth 100000 in
theorem sq_r7 {a0 : Int32} {a1 : Int32} : ∀ G : ez_F, fx_up X 6 G 44 12 [.ref 0, .int a0, .int a1] [] (ev_hp I J R T) cz kz = ev_C G 94 [.ref 3, .int a0] (ev_hp I J R T) fun r h1 c1 k1 => G 44 22 [.ref 0, .int a0, .int a1] (r.toList ++ [.int (0 : Int32), .int a1]) h1 (cz + c1) (kz + k1) := by
  intro G
  rfl
set_option maxRecDepth 100000 in
theorem sq_r8 {a0 : Int32} {a1 : Int32} {a2 : Int32} {a3 : Int32} {a4 : Int32} : ∀ G : ez_F, fx_up X 3 G 44 22 [.ref 0, .int a0, .int a1] [.int a2, .int a3, .int a4] (ev_hp I J R T) cz kz = ev_C G 55 [.int a4, .int a3, .int (a2 - (1 : Int32))] (ev_hp I J R T) fun r h1 c1 k1 => G 44 27 [.ref 0, .int a0, .int a1] (r.toList ++ []) h1 (cz + c1) (kz + k1) := by
  intro G
  rfl
set_option maxRecDepth 100000 in
theorem sq_r9 {a0 : Int32} {a1 : Int32} {a2 : Int32} : ∀ G : ez_F, fx_up X 1 G 44 27 [.ref 0, .int a0, .int a1] [.int a2] (ev_hp I J R T) cz kz = bif decide (a2 = (0 : Int32)) then G 44 42 [.ref 0, .int a0, .int a1] [] (ev_hp I J R T) cz kz else G 44 30 [.ref 0, .int a0, .int a1] [] (ev_hp I J R T) cz kz := by
  intro G
  rfl
set_option maxRecDepth 100000 in
theorem sq_r10 {a0 : Int32} {a1 : Int32} : ∀ G : ez_F, fx_up X 2 G 44 42 [.ref 0, .int a0, .int a1] [] (ev_hp I J R T) cz kz = some (some (.long (18446744073709551613 : Int64)), (ev_hp I J R T), cz, kz) := by
  intro G
  rfl
set_option maxRecDepth 100000 in
theorem sq_r11 {a0 : Int32} {a1 : Int32} : ∀ G : ez_F, fx_up X 5 G 44 30 [.ref 0, .int a0, .int a1] [] (ev_hp I J R T) cz kz = ev_C G 86 [.ref 3, .int a0, .int a1] (ev_hp I J R T) fun r h1 c1 k1 => G 44 39 [.ref 0, .int a0, .int a1] (r.toList ++ []) h1 (cz + c1) (kz + k1) := by
  intro G
  rfl
set_option maxRecDepth 100000 in
theorem sq_r12 {a0 : Int32} {a1 : Int32} {a2 : Int64} : ∀ G : ez_F, fx_up X 2 G 44 39 [.ref 0, .int a0, .int a1] [.long a2] (ev_hp I J R T) cz kz = some (some (.long a2), (ev_hp I J R T), cz, kz) := by
  intro G
  rfl
set_option maxRecDepth 100000 in
theorem sq_r13 {a0 : Int32} {a1 : Int32} : ∀ G : ez_F, fx_up X 2 G 44 8 [.ref 0, .int a0, .int a1] [] (ev_hp I J R T) cz kz = some (some (.long (18446744073709551614 : Int64)), (ev_hp I J R T), cz, kz) := by
  intro G
  rfl
theorem sr_0 {x y : Int32}
    (H : ((¬ (ev_wi x (0 : Int32) ((I 3 3) - (1 : Int32))) = (0 : Int32) → (((ev_wi y (0 : Int32) ((sz_F I x) - (1 : Int32))) = (0 : Int32) → Q (some (.long (18446744073709551613 : Int64))) (ev_hp I J R T)) ∧ (¬ ((ev_wi y (0 : Int32) ((sz_F I x) - (1 : Int32))) = (0 : Int32)) → Q (some (.long (cl_F I J x y))) (ev_hp I J R T)))) ∧ (¬ (¬ (ev_wi x (0 : Int32) ((I 3 3) - (1 : Int32))) = (0 : Int32)) → Q (some (.long (18446744073709551614 : Int64))) (ev_hp I J R T)))) : pw (N + 1) X 44 0 [.ref 0, .int x, .int y] [] (ev_hp I J R T) Q := by
  refine pw_callp (by decide) (fun _ _ => sq_r5) (pe_is (eg_isShip _ _ _ _ _ _)) ?_
  refine pw_p (pw_if (by decide) (fun _ _ => sq_r6) (fun w1 => ?_) (fun w1 => ?_))
  · have h1 := H.1 w1
    refine pw_p (pw_callp (by decide) (fun _ _ => sq_r7) (pe_sizeOf) ?_)
    refine pw_p (pw_callp (by decide) (fun _ _ => sq_r8) (pe_is (ec_within _ _ _ _ _)) ?_)
    refine pw_p (pw_if (by decide) (fun _ _ => sq_r9) (fun w2 => ?_) (fun w2 => ?_))
    · have h2 := h1.1 w2
      exact pw_p (pw_ret (by decide) (fun _ _ => sq_r10) h2)
    · have h2 := h1.2 w2
      refine pw_p (pw_callp (by decide) (fun _ _ => sq_r11) (pe_cellsAt) ?_)
      exact pw_p (pw_ret (by decide) (fun _ _ => sq_r12) h2)
  · have h1 := H.2 w1
    exact pw_p (pw_ret (by decide) (fun _ _ => sq_r13) h1)
set_option maxRecDepth 100000 in
theorem sq_r14 {a0 : Int32} : ∀ G : ez_F, fx_up X 3 G 223 0 [.ref 35, .int a0] [] (ev_hp I J R T) cz kz = ev_C G 204 [.ref 35, .int a0] (ev_hp I J R T) fun r h1 c1 k1 => G 223 5 [.ref 35, .int a0] (r.toList ++ []) h1 (cz + c1) (kz + k1) := by
  intro G
  rfl
set_option maxRecDepth 100000 in
theorem sq_r15 {a0 : Int32} {a1 : Int32} : ∀ G : ez_F, fx_up X 1 G 223 5 [.ref 35, .int a0] [.int a1] (ev_hp I J R T) cz kz = bif decide (¬ a1 = (0 : Int32)) then G 223 11 [.ref 35, .int a0] [] (ev_hp I J R T) cz kz else G 223 8 [.ref 35, .int a0] [] (ev_hp I J R T) cz kz := by
  intro G
  rfl
set_option maxRecDepth 100000 in
theorem sq_r16 {a0 : Int32} : ∀ G : ez_F, fx_up X 3 G 223 11 [.ref 35, .int a0] [] (ev_hp I J R T) cz kz = ev_C G 190 [.ref 35, .int a0] (ev_hp I J R T) fun r h1 c1 k1 => G 223 16 [.ref 35, .int a0] (r.toList ++ []) h1 (cz + c1) (kz + k1) := by
  intro G
  rfl
set_option maxRecDepth 100000 in
theorem sq_r17 {a0 : Int32} : ∀ G : ez_F, fx_up X 2 G 223 8 [.ref 35, .int a0] [] (ev_hp I J R T) cz kz = some (some (.int (-2 : Int32)), (ev_hp I J R T), cz, kz) := by
  intro G
  rfl
theorem ms_0 {x : Int32}
    (H : ((¬ (ev_il x.toInt64 (0 : Int64) ((I 35 3) - (1 : Int32)).toInt64) = (0 : Int32) → (∃ Q1 : pw_Q, pe N X 190 [.ref 35, .int x] (ev_hp I J R T) Q1 ∧ ∀ (r : Option Value) (h1 : ez_H), Q1 r h1 → pw N X 223 16 [.ref 35, .int x] (r.toList ++ []) h1 Q)) ∧ (¬ (¬ (ev_il x.toInt64 (0 : Int64) ((I 35 3) - (1 : Int32)).toInt64) = (0 : Int32)) → Q (some (.int (-2 : Int32))) (ev_hp I J R T)))) : pw (N + 1) X 223 0 [.ref 35, .int x] [] (ev_hp I J R T) Q := by
  refine pw_callp (by decide) (fun _ _ => sq_r14) (pe_is (em_isShip _ _ _ _ _ _)) ?_
  refine pw_p (pw_if (by decide) (fun _ _ => sq_r15) (fun w1 => ?_) (fun w1 => ?_))
  · have h1 := H.1 w1
    obtain ⟨Q1, hc, hk⟩ := h1
    exact pw_p (pw_call (by decide) (fun _ _ => sq_r16) hc hk)
  · have h1 := H.2 w1
    exact pw_p (pw_ret (by decide) (fun _ _ => sq_r17) h1)
set_option maxRecDepth 100000 in
theorem sq_r18 {a0 : Int32} : ∀ G : ez_F, fx_up X 3 G 223 16 [.ref 35, .int a0] [] (ev_hp I J R T) cz kz = G 223 21 [.ref 35, .int a0] [.int a0, .ref 38] (ev_hp I J R T) cz kz := by
  intro G
  rfl
set_option maxRecDepth 100000 in
theorem sq_r19 {a0 : Int32} {a1 : Int32} : ∀ G : ez_F, fx_up X 1 G 223 22 [.ref 35, .int a0] [.int a1] (ev_hp I J R T) cz kz = some (some (.int a1), (ev_hp I J R T), cz, kz) := by
  intro G
  rfl
theorem ms_16 {x : Int32}
    (H : (ev_ix x 3 → Q (some (.int (I 38 x.toNatClampNeg))) (ev_hp I J R T))) : pw (N + 1) X 223 16 [.ref 35, .int x] [] (ev_hp I J R T) Q := by
  refine pw_seg (by decide) (fun _ _ => sq_r18) ?_
  refine pw_p (pw_iald (by rfl) (cx_getI (show cx_Ds[38]? = some (0, 3, []) from rfl)) (fun w1 => ?_))
  have h1 := H w1
  exact pw_p (pw_ret (by decide) (fun _ _ => sq_r19) h1)
set_option maxRecDepth 100000 in
theorem sq_r20 {a0 : Int32} {a1 : Int32} : ∀ G : ez_F, fx_up X 3 G 222 0 [.ref 35, .int a0, .int a1] [] (ev_hp I J R T) cz kz = ev_C G 204 [.ref 35, .int a0] (ev_hp I J R T) fun r h1 c1 k1 => G 222 5 [.ref 35, .int a0, .int a1] (r.toList ++ []) h1 (cz + c1) (kz + k1) := by
  intro G
  rfl
set_option maxRecDepth 100000 in
theorem sq_r21 {a0 : Int32} {a1 : Int32} {a2 : Int32} : ∀ G : ez_F, fx_up X 1 G 222 5 [.ref 35, .int a0, .int a1] [.int a2] (ev_hp I J R T) cz kz = bif decide (¬ a2 = (0 : Int32)) then G 222 12 [.ref 35, .int a0, .int a1] [] (ev_hp I J R T) cz kz else G 222 8 [.ref 35, .int a0, .int a1] [] (ev_hp I J R T) cz kz := by
  intro G
  rfl
set_option maxRecDepth 100000 in
theorem sq_r22 {a0 : Int32} {a1 : Int32} : ∀ G : ez_F, fx_up X 3 G 222 12 [.ref 35, .int a0, .int a1] [] (ev_hp I J R T) cz kz = ev_C G 190 [.ref 35, .int a0] (ev_hp I J R T) fun r h1 c1 k1 => G 222 17 [.ref 35, .int a0, .int a1] (r.toList ++ []) h1 (cz + c1) (kz + k1) := by
  intro G
  rfl
set_option maxRecDepth 100000 in
theorem sq_r23 {a0 : Int32} {a1 : Int32} : ∀ G : ez_F, fx_up X 2 G 222 8 [.ref 35, .int a0, .int a1] [] (ev_hp I J R T) cz kz = some (some (.long (18446744073709551614 : Int64)), (ev_hp I J R T), cz, kz) := by
  intro G
  rfl
theorem mt_0 {x y : Int32}
    (H : ((¬ (ev_il x.toInt64 (0 : Int64) ((I 35 3) - (1 : Int32)).toInt64) = (0 : Int32) → (∃ Q1 : pw_Q, pe N X 190 [.ref 35, .int x] (ev_hp I J R T) Q1 ∧ ∀ (r : Option Value) (h1 : ez_H), Q1 r h1 → pw N X 222 17 [.ref 35, .int x, .int y] (r.toList ++ []) h1 Q)) ∧ (¬ (¬ (ev_il x.toInt64 (0 : Int64) ((I 35 3) - (1 : Int32)).toInt64) = (0 : Int32)) → Q (some (.long (18446744073709551614 : Int64))) (ev_hp I J R T)))) : pw (N + 1) X 222 0 [.ref 35, .int x, .int y] [] (ev_hp I J R T) Q := by
  refine pw_callp (by decide) (fun _ _ => sq_r20) (pe_is (em_isShip _ _ _ _ _ _)) ?_
  refine pw_p (pw_if (by decide) (fun _ _ => sq_r21) (fun w1 => ?_) (fun w1 => ?_))
  · have h1 := H.1 w1
    obtain ⟨Q1, hc, hk⟩ := h1
    exact pw_p (pw_call (by decide) (fun _ _ => sq_r22) hc hk)
  · have h1 := H.2 w1
    exact pw_p (pw_ret (by decide) (fun _ _ => sq_r23) h1)
set_option maxRecDepth 100000 in
theorem sq_r24 {a0 : Int32} {a1 : Int32} : ∀ G : ez_F, fx_up X 6 G 222 17 [.ref 35, .int a0, .int a1] [] (ev_hp I J R T) cz kz = G 222 25 [.ref 35, .int a0, .int a1] [.int a0, .ref 38, .long (0 : Int64), .long a1.toInt64] (ev_hp I J R T) cz kz := by
  intro G
  rfl
set_option maxRecDepth 100000 in
theorem sq_r25 {a0 : Int32} {a1 : Int32} {a2 : Int32} {a3 : Int64} {a4 : Int64} : ∀ G : ez_F, fx_up X 4 G 222 26 [.ref 35, .int a0, .int a1] [.int a2, .long a3, .long a4] (ev_hp I J R T) cz kz = ev_C G 198 [.long a4, .long a3, .long (a2 - (1 : Int32)).toInt64] (ev_hp I J R T) fun r h1 c1 k1 => G 222 32 [.ref 35, .int a0, .int a1] (r.toList ++ []) h1 (cz + c1) (kz + k1) := by
  intro G
  rfl
set_option maxRecDepth 100000 in
theorem sq_r26 {a0 : Int32} {a1 : Int32} {a2 : Int32} : ∀ G : ez_F, fx_up X 1 G 222 32 [.ref 35, .int a0, .int a1] [.int a2] (ev_hp I J R T) cz kz = bif decide (a2 = (0 : Int32)) then G 222 50 [.ref 35, .int a0, .int a1] [] (ev_hp I J R T) cz kz else G 222 35 [.ref 35, .int a0, .int a1] [] (ev_hp I J R T) cz kz := by
  intro G
  rfl
set_option maxRecDepth 100000 in
theorem sq_r27 {a0 : Int32} {a1 : Int32} : ∀ G : ez_F, fx_up X 2 G 222 50 [.ref 35, .int a0, .int a1] [] (ev_hp I J R T) cz kz = some (some (.long (18446744073709551613 : Int64)), (ev_hp I J R T), cz, kz) := by
  intro G
  rfl
set_option maxRecDepth 100000 in
theorem sq_r28 {a0 : Int32} {a1 : Int32} : ∀ G : ez_F, fx_up X 7 G 222 35 [.ref 35, .int a0, .int a1] [] (ev_hp I J R T) cz kz = G 222 46 [.ref 35, .int a0, .int a1] [.int (((300 : Int32) * a0) + a1), .ref 39] (ev_hp I J R T) cz kz := by
  intro G
  rfl
set_option maxRecDepth 100000 in
theorem sq_r29 {a0 : Int32} {a1 : Int32} {a2 : Int64} : ∀ G : ez_F, fx_up X 2 G 222 47 [.ref 35, .int a0, .int a1] [.long a2] (ev_hp I J R T) cz kz = some (some (.long a2), (ev_hp I J R T), cz, kz) := by
  intro G
  rfl
theorem mt_17 {x y : Int32}
    (H : (ev_ix x 3 → (((ev_il y.toInt64 (0 : Int64) (((I 38 x.toNatClampNeg) - (1 : Int32)).toInt64)) = (0 : Int32) → Q (some (.long (18446744073709551613 : Int64))) (ev_hp I J R T)) ∧ (¬ ((ev_il y.toInt64 (0 : Int64) (((I 38 x.toNatClampNeg) - (1 : Int32)).toInt64)) = (0 : Int32)) → (ev_ix (((300 : Int32) * x) + y) 900 → Q (some (.long (J 39 (((300 : Int32) * x) + y).toNatClampNeg))) (ev_hp I J R T)))))) : pw (N + 1) X 222 17 [.ref 35, .int x, .int y] [] (ev_hp I J R T) Q := by
  refine pw_seg (by decide) (fun _ _ => sq_r24) ?_
  refine pw_p (pw_iald (by rfl) (cx_getI (show cx_Ds[38]? = some (0, 3, []) from rfl)) (fun w1 => ?_))
  have h1 := H w1
  refine pw_p (pw_callp (by decide) (fun _ _ => sq_r25) (pe_is (ec_in _ _ _ _ _)) ?_)
  refine pw_p (pw_if (by decide) (fun _ _ => sq_r26) (fun w1 => ?_) (fun w1 => ?_))
  · have h1 := h1.1 w1
    exact pw_p (pw_ret (by decide) (fun _ _ => sq_r27) h1)
  · have h1 := h1.2 w1
    refine pw_p (pw_seg (by decide) (fun _ _ => sq_r28) ?_)
    refine pw_p (pw_lald (by rfl) (cx_getJ (show cx_Ds[39]? = some (1, 900, []) from rfl)) (fun w2 => ?_))
    have h2 := h1 w2
    exact pw_p (pw_ret (by decide) (fun _ _ => sq_r29) h2)
end
/-- a ship behind the class's call -/
noncomputable def sx_Q (I : Nat → Nat → Int32) (J : Nat → Nat → Int64) (x y : Int32) : pw_Q := fun _ h => ∃ I' J' R' T', h = ev_hp I' J' R' T' ∧ ((I' 5 = I 5 ∧ J' 4 = J 4 ∧ I' 3 3 = I 3 3) ∨
  ∃ sh tn ns : Nat, x = Int32.ofNat sh ∧ sh < 65536 ∧ y = Int32.ofNat tn ∧ tn < 3 ∧ ns < 3 ∧ I 3 3 = Int32.ofNat ns ∧ I' 3 3 = Int32.ofNat (ns + 1) ∧ ∃ I2 J2, fl I J ns (sp_M (I 1 3) (I 1 4) (I 1 5) sh (sp_k tn)) I2 J2 ∧ I' 5 = I2 5 ∧ J' 4 = J2 4)
section
variable {N : Nat} {X : ez_X} {I : Nat → Nat → Int32} {J : Nat → Nat → Int64} {R : Nat → Nat} {T : List ez_C} {x y : Int32}
theorem wi_nat {a : Int32} {u v : Nat} (hv : v < 2147483648) (h : ¬ ev_wi a (Int32.ofNat u) (Int32.ofNat v) = 0) (hu : u < 2147483648) : ∃ n, a = Int32.ofNat n ∧ u ≤ n ∧ n ≤ v := by
  obtain ⟨h1, h2⟩ := ev_wi_ne h
  rw [io_ti hu] at h1
  rw [io_ti hv] at h2
  exact ⟨a.toInt.toNat, io_nat (by omega), by omega, by omega⟩
theorem pe_ship (hB : cx_hB cx_B0 I) : pe N X 43 [.ref 0, .int x, .int y] (ev_hp I J R T) (sx_Q I J x y) := by
  have hW := hB 1 3
  have hH := hB 1 4
  have hwr := hB 1 5
  have hns := hB 3 3
  rw [show cx_B0 1 3 = (2, 6) from rfl] at hW
  rw [show cx_B0 1 4 = (2, 6) from rfl] at hH
  rw [show cx_B0 1 5 = (0, 1) from rfl] at hwr
  rw [show cx_B0 3 3 = (0, 3) from rfl] at hns
  simp only at hW hH hwr hns
  have hwr := cx_01 hwr.1 hwr.2
  have refused : ∀ v, sx_Q I J x y (some (.int v)) (ev_hp I J R T) := fun v => ⟨I, J, R, T, rfl, Or.inl ⟨rfl, rfl, rfl⟩⟩
  refine pe_of (pw_p (sx_0 ⟨fun _ => refused _, fun h1 => ⟨fun _ => refused _, fun _ => ⟨fun h2 => ⟨fun _ => ⟨fun h3 => ?_, fun _ => refused _⟩, fun _ => refused _⟩, fun _ => refused _⟩⟩⟩))
  obtain ⟨sh, rfl, s1, s2⟩ := wi_nat (u := 1) (v := 65535) (by omega) h1 (by omega)
  obtain ⟨tn, rfl, -, t2⟩ := wi_nat (u := 0) (v := 2) (by omega) h2 (by omega)
  obtain ⟨ns, e3, n1⟩ : ∃ ns : Nat, I 3 3 = Int32.ofNat ns ∧ ns < 3 := by
    rw [Int32.lt_iff_toInt_lt, show (3 : Int32).toInt = 3 from by decide] at h3
    exact ⟨(I 3 3).toInt.toNat, io_nat hns.1, by omega⟩
  refine ⟨_, pe_build n1 e3 hwr hW hH (by omega) (by omega), ?_⟩
  rintro r h ⟨rfl, I2, J2, rfl, h2⟩
  refine pw_p (sx_66 ⟨_, pe_W (ea_S_layingsChanged_28_0 X _ _ R T), ?_⟩)
  rintro r h ⟨_, _, rfl, rfl, -⟩
  refine pw_p (sx_71 ⟨_, _, _, _, rfl, Or.inr ⟨sh, tn, ns, rfl, by omega, rfl, by omega, n1, e3, ?_, I2, J2, h2, ?_, rfl⟩⟩)
  · rw [cx_sI_n _ _ (by decide), cx_sI_n _ _ (by decide), cx_sI_n _ _ (by decide), cx_sI_n _ _ (by decide), cx_sI_s, upd_s]
  · rw [cx_sI_n _ _ (by decide), cx_sI_n _ _ (by decide), cx_sI_n _ _ (by decide), cx_sI_n _ _ (by decide), cx_sI_n _ _ (by decide)]
theorem il_ship (a b : Int32) : ev_il a.toInt64 (0 : Int64) (b - (1 : Int32)).toInt64 = ev_wi a 0 (b - 1) := il_0 a (b - 1)
noncomputable def mi_spots (n : Nat → Nat) (ns : Nat) (x : Int32) : Int32 := if ev_wi x 0 (Int32.ofNat ns - 1) = 0 then -2 else Int32.ofNat (n x.toInt.toNat)
noncomputable def mi_spot (n : Nat → Nat) (f : Nat → Nat → Int64) (ns : Nat) (x y : Int32) : Int64 := if ev_wi x 0 (Int32.ofNat ns - 1) = 0 then 18446744073709551614 else if ev_wi y 0 (Int32.ofNat (n x.toInt.toNat) - 1) = 0 then 18446744073709551613 else f x.toInt.toNat y.toInt.toNat
theorem wi_lt {a : Int32} {n : Nat} (hn : n < 2147483648) (h : ¬ ev_wi a 0 (Int32.ofNat n - 1) = 0) : ∃ j, a = Int32.ofNat j ∧ j < n := by
  obtain ⟨h1, h2⟩ := ev_wi_ne h
  rw [show (0 : Int32).toInt = 0 from by decide] at h1
  have hn0 : 1 ≤ n := by
    apply Classical.byContradiction
    intro hz
    obtain rfl : n = 0 := by omega
    rw [show (Int32.ofNat 0 - 1 : Int32).toInt = -1 from by decide] at h2
    omega
  rw [show (1 : Int32) = Int32.ofNat 1 from rfl, io_sub hn0, io_ti (by omega)] at h2
  exact ⟨a.toInt.toNat, io_nat h1, by omega⟩
theorem pe_spots {n : Nat → Nat} {ns : Nat} (h3 : I 3 3 = Int32.ofNat ns) (hn : ns ≤ 3) (h5 : ∀ s, s < ns → I 5 s = Int32.ofNat (n s)) : pe N X 46 [.ref 0, .int x] (ev_hp I J R T) (fun r h => r = some (.int (mi_spots n ns x)) ∧ h = ev_hp I J R T) := by
  unfold mi_spots
  refine pe_of (pw_p (sq_0 ⟨fun h => ?_, fun h => ?_⟩))
  · rw [h3] at h
    rw [if_pos h]
    exact ⟨rfl, rfl⟩
  · rw [h3] at h
    rw [if_neg h]
    obtain ⟨s, rfl, hs⟩ := wi_lt (by omega) h
    rw [sz_in h3 hs hn, h5 s hs, io_ti (by omega)]
    exact ⟨rfl, rfl⟩
theorem pe_spot {n : Nat → Nat} {f : Nat → Nat → Int64} {ns : Nat} (h3 : I 3 3 = Int32.ofNat ns) (hn : ns ≤ 3) (h5 : ∀ s, s < ns → I 5 s = Int32.ofNat (n s) ∧ n s ≤ 288) (h4 : ∀ s k, s < ns → k < n s → J 4 (288 * s + k) = f s k) :
    pe N X 44 [.ref 0, .int x, .int y] (ev_hp I J R T) (fun r h => r = some (.long (mi_spot n f ns x y)) ∧ h = ev_hp I J R T) := by
  unfold mi_spot
  refine pe_of (pw_p (sr_0 ⟨fun h => ⟨fun h2 => ?_, fun h2 => ?_⟩, fun h => ?_⟩))
  · rw [h3] at h
    rw [if_neg h]
    obtain ⟨s, rfl, hs⟩ := wi_lt (by omega) h
    rw [sz_in h3 hs hn, (h5 s hs).1] at h2
    rw [io_ti (by omega), show ((s : Nat) : Int).toNat = s from by omega, if_pos h2]
    exact ⟨rfl, rfl⟩
  · rw [h3] at h
    rw [if_neg h]
    obtain ⟨s, rfl, hs⟩ := wi_lt (by omega) h
    obtain ⟨e5, l5⟩ := h5 s hs
    rw [sz_in h3 hs hn, e5] at h2
    rw [io_ti (by omega), show ((s : Nat) : Int).toNat = s from by omega, if_neg h2]
    obtain ⟨k, rfl, hk⟩ := wi_lt (by omega) h2
    rw [cl_in h3 hs hn (by omega), h4 s k hs hk, io_ti (by omega)]
    exact ⟨rfl, rfl⟩
  · rw [h3] at h
    rw [if_pos (Classical.not_not.mp h)]
    exact ⟨rfl, rfl⟩
/-- the reference's row is the class's -/
noncomputable def fi1 (I : Nat → Nat → Int32) (s sh tn : Nat) : Prop := sh < 65536 ∧ tn < 3 ∧ I 36 s = Int32.ofNat sh ∧ I 37 s = Int32.ofNat tn
noncomputable def mr_row (I : Nat → Nat → Int32) (s : Nat) (n : Nat) (f : Nat → Int64) : Prop := ∃ sh tn, fi1 I s sh tn ∧ srt f 0 n ∧ n ≤ 288 ∧ ∀ w, inrow f 0 n w ↔ sp_M (I 35 0) (I 35 1) (I 35 2) sh (sp_k tn) w
theorem mr_find {s n : Nat} {f : Nat → Int64} (hB : cx_hB cx_B0 I) (hs : s < 3) (h : mr_row I s n f) : pe N X 190 [.ref 35, .int (Int32.ofNat s)] (ev_hp I J R T) (fun r h => r = none ∧ ∃ f' g, h = ev_hp (ev_sI I 38 (upd (I 38) s (Int32.ofNat n))) (ev_sJ (ev_sJ J 39 f') 40 g) R T ∧ (∀ a, a < n → f' (300 * s + a) = f a) ∧
    (∀ q, q < 300 * s ∨ 300 * s + 300 ≤ q → f' q = J 39 q ∧ g q = J 40 q) ∧ ∀ a, a < n → g (300 * s + a) = ab_F (I 35 0) (I 35 1) (I 35 2) (I 35 6) (f a)) := by
  have hW := hB 35 0
  have hH := hB 35 1
  have hwr := hB 35 2
  rw [show cx_B0 35 0 = (2, 6) from rfl] at hW
  rw [show cx_B0 35 1 = (2, 6) from rfl] at hH
  rw [show cx_B0 35 2 = (0, 1) from rfl] at hwr
  simp only at hW hH hwr
  have hwr := cx_01 hwr.1 hwr.2
  obtain ⟨sh, tn, ⟨f1, f2, f3, f4⟩, h1, h2, h3⟩ := h
  refine pe_mono (pe_find hs hwr hW hH f1 f2 f3 f4) ?_
  rintro r h ⟨rfl, n', f', g, rfl, ⟨g1, g2, g3, g4⟩, g5, g6⟩
  obtain ⟨e1, e2⟩ := srt_same g1 h1 fun v => (g3 v).trans (h3 v).symm
  subst e1
  have e3 : ∀ a, a < n' → f' (300 * s + a) = f a := fun a ha => by rw [e2 a ha, Nat.zero_add]
  exact ⟨rfl, f', g, rfl, e3, fun q hq => ⟨g4 q hq, g5 q hq⟩, fun a ha => by rw [g6 a ha, e3 a ha]⟩
theorem pe_mspots {n : Nat → Nat} {f : Nat → Nat → Int64} {ns : Nat} (hB : cx_hB cx_B0 I) (h3 : I 35 3 = Int32.ofNat ns) (hn : ns ≤ 3) (h5 : ∀ s, s < ns → mr_row I s (n s) (f s)) : pe N X 223 [.ref 35, .int x] (ev_hp I J R T) (fun r _ => r = some (.int (mi_spots n ns x))) := by
  unfold mi_spots
  refine pe_of (pw_p (ms_0 ⟨fun h => ?_, fun h => ?_⟩))
  · rw [il_ship, h3] at h
    rw [if_neg h]
    obtain ⟨s, rfl, hs⟩ := wi_lt (by omega) h
    refine ⟨_, mr_find hB (by omega) (h5 s hs), ?_⟩
    rintro r h ⟨rfl, f', g, rfl, -⟩
    refine pw_p (ms_16 fun _ => ?_)
    rw [cx_sI_s, ix_cl (by omega), upd_s, io_ti (by omega)]
    rfl
  · rw [il_ship, h3] at h
    rw [if_pos (Classical.not_not.mp h)]
theorem pe_mspot {n : Nat → Nat} {f : Nat → Nat → Int64} {ns : Nat} (hB : cx_hB cx_B0 I) (h3 : I 35 3 = Int32.ofNat ns) (hn : ns ≤ 3) (h5 : ∀ s, s < ns → mr_row I s (n s) (f s)) : pe N X 222 [.ref 35, .int x, .int y] (ev_hp I J R T) (fun r _ => r = some (.long (mi_spot n f ns x y))) := by
  unfold mi_spot
  refine pe_of (pw_p (mt_0 ⟨fun h => ?_, fun h => ?_⟩))
  · rw [il_ship, h3] at h
    rw [if_neg h]
    obtain ⟨s, rfl, hs⟩ := wi_lt (by omega) h
    have hn2 : n s ≤ 288 := by
      obtain ⟨_, _, _, _, h2, _⟩ := h5 s hs
      exact h2
    refine ⟨_, mr_find hB (by omega) (h5 s hs), ?_⟩
    rintro r h ⟨rfl, f', g, rfl, e1, e2, -⟩
    rw [io_ti (by omega), show ((s : Nat) : Int).toNat = s from by omega]
    refine pw_p (mt_17 fun _ => ⟨fun h2 => ?_, fun h2 _ => ?_⟩)
    · rw [cx_sI_s, ix_cl (by omega), upd_s, il_ship] at h2
      rw [if_pos h2]
    · rw [cx_sI_s, ix_cl (by omega), upd_s, il_ship] at h2
      rw [if_neg h2]
      obtain ⟨k, rfl, hk⟩ := wi_lt (by omega) h2
      rw [i_300, io_add, ix_cl (by omega), cx_sJ_n _ _ (by decide), cx_sJ_s, e1 k hk, io_ti (by omega)]
      rfl
  · rw [il_ship, h3] at h
    rw [if_pos (Classical.not_not.mp h)]
end
end
section
/-! What the law's loop keeps: both keys the same, each ship's row in the class the set that the reference's shape and turns have. -/
/-- behind a call: its answer, the world, no more room than told -/
noncomputable def lw_mid (T : List ez_C) (M : Int32 → (Nat → Nat → Int32) → (Nat → Nat → Int64) → (Nat → Nat) → List ez_C → Prop) : ev_Q := fun r h c k => ∃ (v : Int32) (I' : Nat → Nat → Int32) (J' : Nat → Nat → Int64) (R' : Nat → Nat) (T' : List ez_C), r = some (.int v) ∧ h = ev_hp I' J' R' T' ∧ cx_hok cx_B0 I' R' T' ∧ c + T.length = T'.length ∧ k + cx_mem T = cx_mem T' ∧ M v I' J' R' T'
noncomputable def lw_midL (T : List ez_C) (M : Int64 → (Nat → Nat → Int32) → (Nat → Nat → Int64) → (Nat → Nat) → List ez_C → Prop) : ev_Q := fun r h c k => ∃ (v : Int64) (I' : Nat → Nat → Int32) (J' : Nat → Nat → Int64) (R' : Nat → Nat) (T' : List ez_C), r = some (.long v) ∧ h = ev_hp I' J' R' T' ∧ cx_hok cx_B0 I' R' T' ∧ c + T.length = T'.length ∧ k + cx_mem T = cx_mem T' ∧ M v I' J' R' T'
section
variable {I I' I1 : Nat → Nat → Int32} {J J' J1 : Nat → Nat → Int64} {R R' R1 : Nat → Nat} {T T' T1 : List ez_C}
theorem hp_T (e : ev_hp I J R T = ev_hp I' J' R' T') : T = T' := by
  rw [cx_hp_is, cx_hp_is] at e
  exact (List.append_inj e (by rw [cx_mk_len, cx_mk_len])).2
/-- cells that a method's word says nothing of -/
noncomputable def fr_no (md : List (Nat × Nat)) (a : Nat) : Bool := !(md.any fun e => Nat.beq e.1 a)
theorem fr_may {md : List (Nat × Nat)} {a : Nat} (h : fr_no md a = true) (k : Nat) : cx_may md a k = false := by
  unfold fr_no at h
  cases hz : cx_may md a k with
  | false => rfl
  | true =>
    obtain ⟨e, he, h1⟩ := List.any_eq_true.mp hz
    have h2 : (md.any fun e => Nat.beq e.1 a) = true := List.any_eq_true.mpr ⟨e, he, (Bool.and_eq_true_iff.mp h1).1⟩
    rw [h2] at h
    cases h
theorem fr_I {md : List (Nat × Nat)} {a : Nat} (h : fr_no md a = true) (hf : cx_fr md I J I' J') : I' a = I a := funext fun k => (hf a k (fr_may h k)).1
theorem fr_J {md : List (Nat × Nat)} {a : Nat} (h : fr_no md a = true) (hf : cx_fr md I J I' J') : J' a = J a := funext fun k => (hf a k (fr_may h k)).2
theorem fr_f {md : List (Nat × Nat)} {a k : Nat} (h : cx_may md a k = false) (hf : cx_fr md I J I' J') : I' a k = I a k := (hf a k h).1
/-- the ships -/
noncomputable def fi (I : Nat → Nat → Int32) (J : Nat → Nat → Int64) : Prop := ∀ s : Nat, s < (I 35 3).toInt.toNat → ∃ n sh tn, fi1 I s sh tn ∧ I 5 s = Int32.ofNat n ∧ srt (J 4) (288 * s) n ∧ n ≤ 288 ∧ ∀ w, inrow (J 4) (288 * s) n w ↔ sp_M (I 35 0) (I 35 1) (I 35 2) sh (sp_k tn) w
noncomputable def rl (I : Nat → Nat → Int32) (J : Nat → Nat → Int64) : Prop := kx I = km I ∧ fi I J
theorem km_0 (e : kx I = km I) : I 1 3 = I 35 0 ∧ I 1 4 = I 35 1 ∧ I 1 5 = I 35 2 ∧ I 3 3 = I 35 3 := by
  refine ⟨congrArg (fun K => K.1) e, congrArg (fun K => K.2.1) e, congrArg (fun K => K.2.2.1) e, congrArg (fun K => kt_sh K) e⟩
theorem fi_same (h : fi I J) (h3 : I' 35 3 = I 35 3) (h0 : I' 35 0 = I 35 0) (h1 : I' 35 1 = I 35 1) (h2 : I' 35 2 = I 35 2) (h36 : I' 36 = I 36) (h37 : I' 37 = I 37) (h5 : I' 5 = I 5) (h4 : J' 4 = J 4) : fi I' J' := by
  intro s hs
  rw [h3] at hs
  obtain ⟨n, sh, tn, f1, f2, f3, f4, f5⟩ := h s hs
  refine ⟨n, sh, tn, ?_, by rw [h5]; exact f2, by rw [h4]; exact f3, f4, fun w => by rw [h4, h0, h1, h2]; exact f5 w⟩
  unfold fi1
  rw [h36, h37]
  exact f1
noncomputable def fi_fr (md : List (Nat × Nat)) : Bool := !cx_may md 35 0 && (!cx_may md 35 1 && (!cx_may md 35 2 && (!cx_may md 35 3 && (fr_no md 36 && (fr_no md 37 && (fr_no md 5 && fr_no md 4))))))
theorem fi_fr_s {md : List (Nat × Nat)} (h : fi_fr md = true) (hf : cx_fr md I J I' J') (hi : fi I J) : fi I' J' := by
  unfold fi_fr at h
  simp only [Bool.and_eq_true, Bool.not_eq_true'] at h
  obtain ⟨h0, h1, h2, h3, h4, h5, h6, h7⟩ := h
  exact fi_same hi (fr_f h3 hf) (fr_f h0 hf) (fr_f h1 hf) (fr_f h2 hf) (fr_I h4 hf) (fr_I h5 hf) (fr_I h6 hf) (fr_J h7 hf)
theorem fi_none (h : I 35 3 = 0) : fi I J := by
  intro s hs
  rw [h, show ((0 : Int32).toInt.toNat) = 0 from by decide] at hs
  omega
theorem rl_hp (e : ev_hp I J R T = ev_hp I' J' R' T') (h : rl I J) : rl I' J' := by
  have f : ∀ k, (k = 0 ∨ k = 1 ∨ k = 2 ∨ k = 3) → I' 35 k = I 35 k := by
    intro k hk
    rcases hk with rfl | rfl | rfl | rfl <;> exact (hp_fld (n := 0) (show cx_Ds[35]? = some (0 + 2, _, _) from rfl) rfl e).symm
  refine ⟨by rw [← kx_hp e, ← km_hp e]; exact h.1, fi_same h.2 (f 3 (by decide)) (f 0 (by decide)) (f 1 (by decide)) (f 2 (by decide)) (hp_row (show cx_Ds[36]? = some (0, _, _) from rfl) e).symm (hp_row (show cx_Ds[37]? = some (0, _, _) from rfl) e).symm (hp_row (show cx_Ds[5]? = some (0, _, _) from rfl) e).symm (hp_rowJ (show cx_Ds[4]? = some (1, _, _) from rfl) e).symm⟩
end
/-! A call's key, and all that it leaves. -/
noncomputable def mi_k (md : List (Nat × Nat)) (f : kt_K → Int32 × kt_K) (I : Nat → Nat → Int32) (J : Nat → Nat → Int64) : Int32 → (Nat → Nat → Int32) → (Nat → Nat → Int64) → (Nat → Nat) → List ez_C → Prop := fun v I' J' _ _ => (v, kx I') = f (kx I) ∧ km I' = km I ∧ cx_fr md I J I' J'
noncomputable def mi_m (md : List (Nat × Nat)) (f : kt_K → Int32 × kt_K) (I : Nat → Nat → Int32) (J : Nat → Nat → Int64) : Int32 → (Nat → Nat → Int32) → (Nat → Nat → Int64) → (Nat → Nat) → List ez_C → Prop := fun v I' J' _ _ => (v, km I') = f (km I) ∧ kx I' = kx I ∧ cx_fr md I J I' J'
section
variable {X : ez_X} {m : Nat} {K : cx_K} {as : List Value} {σ0 : List Int} {I : Nat → Nat → Int32} {J : Nat → Nat → Int64} {R : Nat → Nat} {T : List ez_C} {f : kt_K → Int32 × kt_K}
theorem lx_k (hv : cx_valid cx_B0 m K) (hf : kt_fm K.2.1 = true) (hX2 : X.1 < 2 ^ 31) (hh : cx_hok cx_B0 I R T) (hok : cx_ok σ0 K.1 (ez_lay as) [] I T) (he : ev_W X m 0 (ez_lay as) [] (ev_hp I J R T) 0 0 (kp_E kx f I)) : ev_W X m 0 (ez_lay as) [] (ev_hp I J R T) 0 0 (lw_mid T (mi_k K.2.1 f I J)) := by
  refine (he.both (hv X σ0 _ I J R T hX2 hh hok)).mono ?_
  rintro r h' c' k' ⟨⟨v, I1, J1, R1, T1, e1, e2, e3⟩, I', J', R', T', q1, q2, q3, q4, q5, q6, -⟩
  exact ⟨v, I', J', R', T', e1, q1, q2, by omega, by omega, by rw [← kx_hp (e2.symm.trans q1)]; exact e3, km_fr hf q3, q3⟩
theorem lm_k (hv : cx_valid cx_B0 m K) (hf : kt_fx K.2.1 = true) (hX2 : X.1 < 2 ^ 31) (hh : cx_hok cx_B0 I R T) (hok : cx_ok σ0 K.1 (ez_lay as) [] I T) (he : ev_W X m 0 (ez_lay as) [] (ev_hp I J R T) 0 0 (kp_E km f I)) : ev_W X m 0 (ez_lay as) [] (ev_hp I J R T) 0 0 (lw_mid T (mi_m K.2.1 f I J)) := by
  refine (he.both (hv X σ0 _ I J R T hX2 hh hok)).mono ?_
  rintro r h' c' k' ⟨⟨v, I1, J1, R1, T1, e1, e2, e3⟩, I', J', R', T', q1, q2, q3, q4, q5, q6, -⟩
  exact ⟨v, I', J', R', T', e1, q1, q2, by omega, by omega, by rw [← km_hp (e2.symm.trans q1)]; exact e3, kx_fr hf q3, q3⟩
/-- what is known of every end, of a method whose word is known -/
theorem lx_p {M : Int32 → (Nat → Nat → Int32) → (Nat → Nat → Int64) → (Nat → Nat) → List ez_C → Prop} {Q2 : pw_Q} (hv : cx_valid cx_B0 m K) (hX2 : X.1 < 2 ^ 31) (hh : cx_hok cx_B0 I R T) (hok : cx_ok σ0 K.1 (ez_lay as) [] I T) (hp : ∀ N, pe N X m as (ev_hp I J R T) Q2)
    (hM : ∀ (r : Option Value) (h1 : ez_H) I' J' R' T', Q2 r h1 → h1 = ev_hp I' J' R' T' → cx_fr K.2.1 I J I' J' → cx_hok cx_B0 I' R' T' → ∃ v, r = some (.int v) ∧ M v I' J' R' T') : ev_W X m 0 (ez_lay as) [] (ev_hp I J R T) 0 0 (lw_mid T M) := by
  refine (W_pe (hv X σ0 _ I J R T hX2 hh hok) hp).mono ?_
  rintro r h' c' k' ⟨⟨I', J', R', T', q1, q2, q3, q4, q5, q6, -⟩, hq⟩
  obtain ⟨v, e, hm⟩ := hM r h' I' J' R' T' hq q1 q3 q2
  exact ⟨v, I', J', R', T', e, q1, q2, by omega, by omega, hm⟩
theorem lx_pL {M : Int64 → (Nat → Nat → Int32) → (Nat → Nat → Int64) → (Nat → Nat) → List ez_C → Prop} {Q2 : pw_Q} (hv : cx_valid cx_B0 m K) (hX2 : X.1 < 2 ^ 31) (hh : cx_hok cx_B0 I R T) (hok : cx_ok σ0 K.1 (ez_lay as) [] I T) (hp : ∀ N, pe N X m as (ev_hp I J R T) Q2)
    (hM : ∀ (r : Option Value) (h1 : ez_H) I' J' R' T', Q2 r h1 → h1 = ev_hp I' J' R' T' → cx_fr K.2.1 I J I' J' → cx_hok cx_B0 I' R' T' → ∃ v, r = some (.long v) ∧ M v I' J' R' T') : ev_W X m 0 (ez_lay as) [] (ev_hp I J R T) 0 0 (lw_midL T M) := by
  refine (W_pe (hv X σ0 _ I J R T hX2 hh hok) hp).mono ?_
  rintro r h' c' k' ⟨⟨I', J', R', T', q1, q2, q3, q4, q5, q6, -⟩, hq⟩
  obtain ⟨v, e, hm⟩ := hM r h' I' J' R' T' hq q1 q3 q2
  exact ⟨v, I', J', R', T', e, q1, q2, by omega, by omega, hm⟩
/-- the same key again, and the ships -/
theorem rl_k {md md2 : List (Nat × Nat)} {I1 I2 : Nat → Nat → Int32} {J1 J2 : Nat → Nat → Int64} {u v : Int32} {R1 R2 : Nat → Nat} {T1 T2 : List ez_C} (h1 : fi_fr md = true) (h2 : fi_fr md2 = true) (hr : rl I J) (hx : mi_k md f I J v I1 J1 R1 T1) (hm : mi_m md2 f I1 J1 u I2 J2 R2 T2) : u = v ∧ rl I2 J2 := by
  obtain ⟨x1, x2, x3⟩ := hx
  obtain ⟨m1, m2, m3⟩ := hm
  rw [x2, ← hr.1] at m1
  have huv := x1.trans m1.symm
  exact ⟨(congrArg Prod.fst huv).symm, by rw [m2]; exact congrArg Prod.snd huv, fi_fr_s h2 m3 (fi_fr_s h1 x3 hr.2)⟩
end
/-! a word on no int, one, two, three ints -/
section
variable {I : Nat → Nat → Int32} {T : List ez_C} {o p : Nat} {x y z : Int32}
theorem ao_0 : cx_ok [] ([(2, o)], [], [], [], [], []) (ez_lay [.ref o]) [] I T := ⟨⟨rfl, trivial⟩, trivial, cx_iv_nil, cx_nil, fun e he => (by cases he), fun e he => (by cases he)⟩
theorem ao_1 : cx_ok [x.toInt] ([(2, o), (0, 0)], [], [cx_i32], [], [], []) (ez_lay [.ref o, .int x]) [] I T := ⟨⟨rfl, ⟨x, rfl, rfl⟩, trivial⟩, trivial, cx_iv_cons (cx_full32 x) cx_iv_nil, cx_nil, fun e he => (by cases he), fun e he => (by cases he)⟩
theorem ao_2 : cx_ok [x.toInt, y.toInt] ([(2, o), (0, 0), (0, 1)], [], [cx_i32, cx_i32], [], [], []) (ez_lay [.ref o, .int x, .int y]) [] I T := ⟨⟨rfl, ⟨x, rfl, rfl⟩, ⟨y, rfl, rfl⟩, trivial⟩, trivial, cx_iv_cons (cx_full32 x) (cx_iv_cons (cx_full32 y) cx_iv_nil), cx_nil, fun e he => (by cases he), fun e he => (by cases he)⟩
theorem ao_3 : cx_ok [x.toInt, y.toInt, z.toInt] ([(2, o), (0, 0), (0, 1), (0, 2)], [], [cx_i32, cx_i32, cx_i32], [], [], []) (ez_lay [.ref o, .int x, .int y, .int z]) [] I T := ⟨⟨rfl, ⟨x, rfl, rfl⟩, ⟨y, rfl, rfl⟩, ⟨z, rfl, rfl⟩, trivial⟩, trivial, cx_iv_cons (cx_full32 x) (cx_iv_cons (cx_full32 y) (cx_iv_cons (cx_full32 z) cx_iv_nil)), cx_nil, fun e he => (by cases he), fun e he => (by cases he)⟩
theorem ao_g (hb : z = 0 ∨ z = 1) : cx_ok [x.toInt, y.toInt, z.toInt] ([(2, o), (0, 0), (0, 1), (0, 2)], [], [cx_i32, cx_i32, (0, 1)], [], [], []) (ez_lay [.ref o, .int x, .int y, .int z]) [] I T := ⟨⟨rfl, ⟨x, rfl, rfl⟩, ⟨y, rfl, rfl⟩, ⟨z, rfl, rfl⟩, trivial⟩, trivial, cx_iv_cons (cx_full32 x) (cx_iv_cons (cx_full32 y) (cx_iv_cons (by rcases hb with rfl | rfl <;> exact ⟨by decide, by decide⟩) cx_iv_nil)), cx_nil, fun e he => (by cases he), fun e he => (by cases he)⟩
end
end
section
/-! The calls that the law makes, one on each side. -/
theorem lw_mono {T : List ez_C} {M M2 : Int32 → (Nat → Nat → Int32) → (Nat → Nat → Int64) → (Nat → Nat) → List ez_C → Prop} (h : ∀ v I J R T, M v I J R T → M2 v I J R T) : ∀ r h1 c k, lw_mid T M r h1 c k → lw_mid T M2 r h1 c k := fun r h1 c k ⟨v, I, J, R, T, e1, e2, e3, e4, e5, e6⟩ => ⟨v, I, J, R, T, e1, e2, e3, e4, e5, h _ _ _ _ _ e6⟩
section
variable {X : ez_X} {I I1 : Nat → Nat → Int32} {J J1 : Nat → Nat → Int64} {R R1 : Nat → Nat} {T T1 : List ez_C} {v : Int32}
theorem lx_set (hX2 : X.1 < 2 ^ 31) (hh : cx_hok cx_B0 I R T) (hr : rl I J) (x y : Int32) : ev_W X 42 0 (ez_lay [.ref 0, .int x, .int y]) [] (ev_hp I J R T) 0 0 (lw_mid T (mi_k ck_42_0.2.1 (kf_set x y) I J)) :=
  lx_k cv_42_0 (by rfl) hX2 hh ao_2 (kc_set X I J R T x y)
theorem lm_set (hX2 : X.1 < 2 ^ 31) (hr : rl I J) (x y : Int32) (hh1 : cx_hok cx_B0 I1 R1 T1) (hm : mi_k ck_42_0.2.1 (kf_set x y) I J v I1 J1 R1 T1) : ev_W X 219 0 (ez_lay [.ref 35, .int x, .int y]) [] (ev_hp I1 J1 R1 T1) 0 0 (lw_mid T1 (fun u I2 J2 _ _ => u = v ∧ rl I2 J2)) :=
  (lm_k cv_219_0 (by rfl) hX2 hh1 ao_2 (kd_set X I1 J1 R1 T1 x y)).mono (lw_mono fun u I2 J2 R2 T2 h => rl_k (by rfl) (by rfl) hr hm h)
theorem lx_drift (hX2 : X.1 < 2 ^ 31) (hh : cx_hok cx_B0 I R T) (hr : rl I J) (x y : Int32) : ev_W X 16 0 (ez_lay [.ref 0, .int x, .int y]) [] (ev_hp I J R T) 0 0 (lw_mid T (mi_k ck_16_0.2.1 (kf_drift x y) I J)) :=
  lx_k cv_16_0 (by rfl) hX2 hh ao_2 (kc_drift X I J R T x y)
theorem lm_drift (hX2 : X.1 < 2 ^ 31) (hr : rl I J) (x y : Int32) (hh1 : cx_hok cx_B0 I1 R1 T1) (hm : mi_k ck_16_0.2.1 (kf_drift x y) I J v I1 J1 R1 T1) : ev_W X 185 0 (ez_lay [.ref 35, .int x, .int y]) [] (ev_hp I1 J1 R1 T1) 0 0 (lw_mid T1 (fun u I2 J2 _ _ => u = v ∧ rl I2 J2)) :=
  (lm_k cv_185_0 (by rfl) hX2 hh1 ao_2 (kd_drift X I1 J1 R1 T1 x y)).mono (lw_mono fun u I2 J2 R2 T2 h => rl_k (by rfl) (by rfl) hr hm h)
theorem lx_call (hX2 : X.1 < 2 ^ 31) (hh : cx_hok cx_B0 I R T) (hr : rl I J) (x : Int32) : ev_W X 10 0 (ez_lay [.ref 0, .int x]) [] (ev_hp I J R T) 0 0 (lw_mid T (mi_k ck_10_0.2.1 (kf_call x) I J)) :=
  lx_k cv_10_0 (by rfl) hX2 hh ao_1 (kc_call X I J R T x)
theorem lm_call (hX2 : X.1 < 2 ^ 31) (hr : rl I J) (x : Int32) (hh1 : cx_hok cx_B0 I1 R1 T1) (hm : mi_k ck_10_0.2.1 (kf_call x) I J v I1 J1 R1 T1) : ev_W X 175 0 (ez_lay [.ref 35, .int x]) [] (ev_hp I1 J1 R1 T1) 0 0 (lw_mid T1 (fun u I2 J2 _ _ => u = v ∧ rl I2 J2)) :=
  (lm_k cv_175_0 (by rfl) hX2 hh1 ao_1 (kd_call X I1 J1 R1 T1 hh1.1 x)).mono (lw_mono fun u I2 J2 R2 T2 h => rl_k (by rfl) (by rfl) hr hm h)
theorem lx_salvo (hX2 : X.1 < 2 ^ 31) (hh : cx_hok cx_B0 I R T) (hr : rl I J) (x y : Int32) : ev_W X 41 0 (ez_lay [.ref 0, .int x, .int y]) [] (ev_hp I J R T) 0 0 (lw_mid T (mi_k ck_41_0.2.1 (kf_salvo x y) I J)) :=
  lx_k cv_41_0 (by rfl) hX2 hh ao_2 (kc_salvo X I J R T x y)
theorem lm_salvo (hX2 : X.1 < 2 ^ 31) (hr : rl I J) (x y : Int32) (hh1 : cx_hok cx_B0 I1 R1 T1) (hm : mi_k ck_41_0.2.1 (kf_salvo x y) I J v I1 J1 R1 T1) : ev_W X 218 0 (ez_lay [.ref 35, .int x, .int y]) [] (ev_hp I1 J1 R1 T1) 0 0 (lw_mid T1 (fun u I2 J2 _ _ => u = v ∧ rl I2 J2)) :=
  (lm_k cv_218_0 (by rfl) hX2 hh1 ao_2 (kd_salvo X I1 J1 R1 T1 hh1.1 x y)).mono (lw_mono fun u I2 J2 R2 T2 h => rl_k (by rfl) (by rfl) hr hm h)
theorem lx_back (hX2 : X.1 < 2 ^ 31) (hh : cx_hok cx_B0 I R T) (hr : rl I J) : ev_W X 5 0 (ez_lay [.ref 0]) [] (ev_hp I J R T) 0 0 (lw_mid T (mi_k ck_5_0.2.1 kf_back I J)) :=
  lx_k cv_5_0 (by rfl) hX2 hh ao_0 (kc_back X I J R T hh.1)
theorem lm_back (hX2 : X.1 < 2 ^ 31) (hr : rl I J) (hh1 : cx_hok cx_B0 I1 R1 T1) (hm : mi_k ck_5_0.2.1 kf_back I J v I1 J1 R1 T1) : ev_W X 168 0 (ez_lay [.ref 35]) [] (ev_hp I1 J1 R1 T1) 0 0 (lw_mid T1 (fun u I2 J2 _ _ => u = v ∧ rl I2 J2)) :=
  (lm_k cv_168_0 (by rfl) hX2 hh1 ao_0 (kd_back X I1 J1 R1 T1)).mono (lw_mono fun u I2 J2 R2 T2 h => rl_k (by rfl) (by rfl) hr hm h)
theorem lx_count (hX2 : X.1 < 2 ^ 31) (hh : cx_hok cx_B0 I R T) (hr : rl I J) (x y : Int32) : ev_W X 14 0 (ez_lay [.ref 0, .int x, .int y]) [] (ev_hp I J R T) 0 0 (lw_mid T (mi_k ck_14_0.2.1 (kf_count x y) I J)) :=
  lx_k cv_14_0 (by rfl) hX2 hh ao_2 (kc_count X I J R T hh.1 x y)
theorem lm_count (hX2 : X.1 < 2 ^ 31) (hr : rl I J) (x y : Int32) (hh1 : cx_hok cx_B0 I1 R1 T1) (hm : mi_k ck_14_0.2.1 (kf_count x y) I J v I1 J1 R1 T1) : ev_W X 182 0 (ez_lay [.ref 35, .int x, .int y]) [] (ev_hp I1 J1 R1 T1) 0 0 (lw_mid T1 (fun u I2 J2 _ _ => u = v ∧ rl I2 J2)) :=
  (lm_k cv_182_0 (by rfl) hX2 hh1 ao_2 (kd_count X I1 J1 R1 T1 hh1.1 x y)).mono (lw_mono fun u I2 J2 R2 T2 h => rl_k (by rfl) (by rfl) hr hm h)
end
section
variable {X : ez_X} {I I1 : Nat → Nat → Int32} {J J1 : Nat → Nat → Int64} {R R1 : Nat → Nat} {T T1 : List ez_C} {v x y z : Int32}
theorem lx_grid (hX2 : X.1 < 2 ^ 31) (hh : cx_hok cx_B0 I R T) (hr : rl I J) (x y b : Int32) (hb : b = 0 ∨ b = 1) : ev_W X 18 0 (ez_lay [.ref 0, .int x, .int y, .int b]) [] (ev_hp I J R T) 0 0 (lw_mid T (mi_k ck_18_0.2.1 (kf_grid x y b) I J)) :=
  lx_k cv_18_0 (by rfl) hX2 hh (ao_g hb) (kc_grid X I J R T x y b hb)
theorem lm_grid (hX2 : X.1 < 2 ^ 31) (hr : rl I J) (x y b : Int32) (hb : b = 0 ∨ b = 1) (hh1 : cx_hok cx_B0 I1 R1 T1) (hm : mi_k ck_18_0.2.1 (kf_grid x y b) I J v I1 J1 R1 T1) : ev_W X 195 0 (ez_lay [.ref 35, .int x, .int y, .int b]) [] (ev_hp I1 J1 R1 T1) 0 0 (lw_mid T1 (fun u I2 J2 _ _ => u = v ∧ rl I2 J2)) := by
  refine (lm_k cv_195_0 (by rfl) hX2 hh1 (ao_g hb) (kd_grid X I1 J1 R1 T1 x y b hb)).mono (lw_mono fun u I2 J2 R2 T2 h => ?_)
  obtain ⟨x1, x2, x3⟩ := hm
  obtain ⟨m1, m2, m3⟩ := h
  rw [x2] at m1
  have m1' := m1
  rw [← hr.1] at m1
  have huv := x1.trans m1.symm
  refine ⟨(congrArg Prod.fst huv).symm, by rw [m2]; exact congrArg Prod.snd huv, ?_⟩
  have ek := congrArg Prod.snd m1'
  simp only at ek
  unfold kf_grid at ek
  have same : km I2 = km I → fi I2 J2 := fun e => fi_same hr.2 (congrArg (fun K => kt_sh K) e) (congrArg (fun K => K.1) e) (congrArg (fun K => K.2.1) e) (congrArg (fun K => K.2.2.1) e)
    ((fr_I (by rfl) m3).trans (fr_I (by rfl) x3)) ((fr_I (by rfl) m3).trans (fr_I (by rfl) x3)) ((fr_I (by rfl) m3).trans (fr_I (by rfl) x3)) ((fr_J (by rfl) m3).trans (fr_J (by rfl) x3))
  split at ek
  · exact same ek
  · split at ek
    · exact same ek
    · exact fi_none (congrArg (fun K => kt_sh K) ek)
theorem srt_congr {f g : Nat → Int64} {B C n : Nat} (e : ∀ a, a < n → f (B + a) = g (C + a)) (h : srt g C n) : srt f B n := fun a b hab hb => by
  rw [e a (by omega), e b hb]
  exact h a b hab hb
theorem in_congr {f g : Nat → Int64} {B C n : Nat} (e : ∀ a, a < n → f (B + a) = g (C + a)) (w : Int64) : inrow f B n w ↔ inrow g C n w := by
  constructor
  · rintro ⟨a, ha, h⟩
    exact ⟨a, ha, by rw [← e a ha]; exact h⟩
  · rintro ⟨a, ha, h⟩
    exact ⟨a, ha, by rw [e a ha]; exact h⟩
/-- what the class's ship leaves -/
noncomputable def mi_ship (x y : Int32) (I : Nat → Nat → Int32) (J : Nat → Nat → Int64) (I1 : Nat → Nat → Int32) (J1 : Nat → Nat → Int64) : Prop := (I1 5 = I 5 ∧ J1 4 = J 4 ∧ I1 3 3 = I 3 3) ∨
  ∃ sh tn ns : Nat, x = Int32.ofNat sh ∧ sh < 65536 ∧ y = Int32.ofNat tn ∧ tn < 3 ∧ ns < 3 ∧ I 3 3 = Int32.ofNat ns ∧ I1 3 3 = Int32.ofNat (ns + 1) ∧ ∃ I2 J2, fl I J ns (sp_M (I 1 3) (I 1 4) (I 1 5) sh (sp_k tn)) I2 J2 ∧ I1 5 = I2 5 ∧ J1 4 = J2 4
theorem lx_ship (hX2 : X.1 < 2 ^ 31) (hh : cx_hok cx_B0 I R T) (hr : rl I J) (x y : Int32) : ev_W X 43 0 (ez_lay [.ref 0, .int x, .int y]) [] (ev_hp I J R T) 0 0 (lw_mid T (fun v I1 J1 R1 T1 => mi_k ck_43_0.2.1 (kf_ship x y) I J v I1 J1 R1 T1 ∧ mi_ship x y I J I1 J1)) := by
  refine (W_pe (lx_k cv_43_0 (by rfl) hX2 hh ao_2 (kc_ship X I J R T hX2 hh x y)) (fun N => pe_ship (N := N) hh.1)).mono ?_
  rintro r h c k ⟨⟨v, I1, J1, R1, T1, e1, e2, e3, e4, e5, e6⟩, I', J', R', T', q1, q2⟩
  have e := e2.symm.trans q1
  have r5 := hp_row (show cx_Ds[5]? = some (0, _, _) from rfl) e
  have r4 := hp_rowJ (show cx_Ds[4]? = some (1, _, _) from rfl) e
  have r3 := hp_fld (n := 0) (k := 3) (show cx_Ds[3]? = some (0 + 2, _, _) from rfl) rfl e
  refine ⟨v, I1, J1, R1, T1, e1, e2, e3, e4, e5, e6, ?_⟩
  unfold mi_ship
  rw [r5, r4, r3]
  exact q2
theorem fi_hp {I I' : Nat → Nat → Int32} {J J' : Nat → Nat → Int64} {R R' : Nat → Nat} {T T' : List ez_C} (e : ev_hp I J R T = ev_hp I' J' R' T') (h : fi I J) : fi I' J' := by
  have f : ∀ k, (k = 0 ∨ k = 1 ∨ k = 2 ∨ k = 3) → I' 35 k = I 35 k := by
    intro k hk
    rcases hk with rfl | rfl | rfl | rfl <;> exact (hp_fld (n := 0) (show cx_Ds[35]? = some (0 + 2, _, _) from rfl) rfl e).symm
  exact fi_same h (f 3 (by decide)) (f 0 (by decide)) (f 1 (by decide)) (f 2 (by decide)) (hp_row (show cx_Ds[36]? = some (0, _, _) from rfl) e).symm (hp_row (show cx_Ds[37]? = some (0, _, _) from rfl) e).symm (hp_row (show cx_Ds[5]? = some (0, _, _) from rfl) e).symm (hp_rowJ (show cx_Ds[4]? = some (1, _, _) from rfl) e).symm
theorem io_ne1 {n : Nat} (h : n < 1000) : ¬ Int32.ofNat n = Int32.ofNat n + 1 := fun e => by
  rw [io_1, io_eq (by omega) (by omega)] at e
  omega
theorem lm_ship (hX2 : X.1 < 2 ^ 31) (hh : cx_hok cx_B0 I R T) (hr : rl I J) (x y : Int32) (hh1 : cx_hok cx_B0 I1 R1 T1) (hm : mi_k ck_43_0.2.1 (kf_ship x y) I J v I1 J1 R1 T1 ∧ mi_ship x y I J I1 J1) : ev_W X 220 0 (ez_lay [.ref 35, .int x, .int y]) [] (ev_hp I1 J1 R1 T1) 0 0 (lw_mid T1 (fun u I2 J2 _ _ => u = v ∧ rl I2 J2)) := by
  have hs1 := (b_sh hh1.1).2
  have hix : ¬ I1 35 3 = 3 → ev_ix (I1 35 3) 3 := fun hn => fs_ixs hs1.1 (by
    have : ¬ (I1 35 3).toInt = 3 := fun e => hn (cx_i32_eq (by rw [e]; decide))
    omega)
  refine ((lm_k cv_220_0 (by rfl) hX2 hh1 ao_2 (kd_ship X I1 J1 R1 T1 hh1.1 x y)).both (em_ship X I1 J1 R1 T1 x y hix)).mono ?_
  rintro r h c k ⟨⟨u, I2, J2, R2, T2, e1, e2, e3, e4, e5, m1, m2, m3⟩, hc⟩
  obtain ⟨⟨x1, x2, x3⟩, hsh⟩ := hm
  have kIJ := km_0 hr.1
  rw [x2, ← hr.1] at m1
  have huv := x1.trans m1.symm
  have hk2 : kx I2 = km I2 := by rw [m2]; exact congrArg Prod.snd huv
  have s2 : I2 3 3 = I1 3 3 := congrArg (fun K => kt_sh K) m2
  have s3 := (km_0 hk2).2.2.2
  have a0 : I1 35 0 = I 35 0 := congrArg (fun K => K.1) x2
  have a1 : I1 35 1 = I 35 1 := congrArg (fun K => K.2.1) x2
  have a2 : I1 35 2 = I 35 2 := congrArg (fun K => K.2.2.1) x2
  have a3 : I1 35 3 = I 35 3 := congrArg (fun K => kt_sh K) x2
  have a36 : I1 36 = I 36 := fr_I (by rfl) x3
  have a37 : I1 37 = I 37 := fr_I (by rfl) x3
  have hs0 := (b_sh hh.1).1
  -- refused
  have old : h = ev_hp I1 J1 R1 T1 → fi I2 J2 := fun he => by
    have e := he.symm.trans e2
    refine fi_hp e ?_
    have e33 : I1 3 3 = I 3 3 := by
      have : I2 35 3 = I1 35 3 := congrArg (fun K => kt_sh K) (km_hp e).symm
      rw [← s2, s3, this, a3, kIJ.2.2.2]
    rcases hsh with ⟨h5, h4, -⟩ | ⟨sh, tn, ns, -, -, -, -, n1, n2, n3, -⟩
    · exact fi_same hr.2 a3 a0 a1 a2 a36 a37 h5 h4
    · rw [e33, n2, io_eq (by omega) (by omega)] at n3
      omega
  have new : h = ev_hp (ev_sI (ev_sI (ev_sI I1 35 (upd (I1 35) 3 ((I1 35 3) + (1 : Int32)))) 36 (upd (I1 36) (I1 35 3).toNatClampNeg x)) 37 (upd (I1 37) (I1 35 3).toNatClampNeg y)) J1 R1 T1 → fi I2 J2 := fun he => by
    have e := he.symm.trans e2
    refine fi_hp e ?_
    have s4 : I2 35 3 = I1 35 3 + 1 := by
      have := congrArg (fun K => kt_sh K) (km_hp e).symm
      exact this
    rcases hsh with ⟨-, -, h3⟩ | ⟨sh, tn, ns, rfl, n0, rfl, n1, n2, n3, n4, I3, J3, ⟨n, f, g1, g2, g3, g4, g5, g6⟩, h5, h4⟩
    · exfalso
      rw [← s2, s3, s4, a3, ← kIJ.2.2.2] at h3
      rw [io_nat hs0.1] at h3
      exact io_ne1 (by omega) h3.symm
    · have e3 : I1 35 3 = Int32.ofNat ns := by rw [a3, ← kIJ.2.2.2, n3]
      rw [g1, cx_sI_s] at h5
      rw [g2, cx_sJ_s] at h4
      rw [e3, ix_cl (by omega), io_1]
      intro s hs
      rw [cx_sI_n _ _ (show (35 : Nat) ≠ 37 by decide), cx_sI_n _ _ (show (35 : Nat) ≠ 36 by decide), cx_sI_s, upd_s, io_ti (by omega)] at hs
      rw [cx_sI_n _ _ (show (35 : Nat) ≠ 37 by decide), cx_sI_n _ _ (show (35 : Nat) ≠ 36 by decide), cx_sI_s, cx_sI_n _ _ (show (5 : Nat) ≠ 37 by decide), cx_sI_n _ _ (show (5 : Nat) ≠ 36 by decide), cx_sI_n _ _ (show (5 : Nat) ≠ 35 by decide),
        upd_n _ _ (show (0 : Nat) ≠ 3 by decide), upd_n _ _ (show (1 : Nat) ≠ 3 by decide), upd_n _ _ (show (2 : Nat) ≠ 3 by decide), a0, a1, a2, h5, h4]
      have fq : ∀ sh' tn', fi1 (ev_sI (ev_sI (ev_sI I1 35 (upd (I1 35) 3 (Int32.ofNat (ns + 1)))) 36 (upd (I1 36) ns (Int32.ofNat sh))) 37 (upd (I1 37) ns (Int32.ofNat tn))) s sh' tn' ↔ sh' < 65536 ∧ tn' < 3 ∧ upd (I 36) ns (Int32.ofNat sh) s = Int32.ofNat sh' ∧ upd (I 37) ns (Int32.ofNat tn) s = Int32.ofNat tn' := by
        intro sh' tn'
        unfold fi1
        rw [cx_sI_s, cx_sI_n _ _ (show (36 : Nat) ≠ 37 by decide), cx_sI_s, a36, a37]
      by_cases hsn : s = ns
      · subst hsn
        refine ⟨n, sh, tn, (fq sh tn).mpr ⟨n0, n1, upd_s _ _ _, upd_s _ _ _⟩, upd_s _ _ _, g3, g4, fun w => ?_⟩
        rw [g5 w, kIJ.1, kIJ.2.1, kIJ.2.2.1]
      · obtain ⟨n', sh', tn', ⟨b1, b2, b3, b4⟩, b5, b6, b7, b8⟩ := hr.2 s (by rw [← a3, e3, io_ti (by omega)]; omega)
        have ef : ∀ a, a < n' → f (288 * s + a) = J 4 (288 * s + a) := fun a ha => g6 _ (by omega)
        exact ⟨n', sh', tn', (fq sh' tn').mpr ⟨b1, b2, by rw [upd_n _ _ hsn]; exact b3, by rw [upd_n _ _ hsn]; exact b4⟩, by rw [upd_n _ _ hsn]; exact b5, srt_congr ef b6, b7, fun w => (in_congr ef w).trans (b8 w)⟩
  refine ⟨u, I2, J2, R2, T2, e1, e2, e3, e4, e5, (congrArg Prod.fst huv).symm, hk2, ?_⟩
  rcases hc with ⟨_, _, he, -⟩ | ⟨_, _, _, he, -⟩ | ⟨_, _, _, _, _, _, he, -⟩ | ⟨_, _, _, _, _, _, he, -⟩ | ⟨_, _, _, _, _, he, -⟩ | ⟨_, _, _, _, he, -⟩
  · exact old he
  · exact old he
  · exact new he
  · exact old he
  · exact old he
  · exact old he
/-! the spots -/
noncomputable def in_n (I : Nat → Nat → Int32) (s : Nat) : Nat := (I 5 s).toInt.toNat
theorem fi_n (hr : rl I J) {s : Nat} (hs : s < (I 3 3).toInt.toNat) : I 5 s = Int32.ofNat (in_n I s) ∧ in_n I s ≤ 288 ∧ mr_row I s (in_n I s) (fun k => J 4 (288 * s + k)) := by
  rw [(km_0 hr.1).2.2.2] at hs
  obtain ⟨n, sh, tn, f1, f2, f3, f4, f5⟩ := hr.2 s hs
  have e : in_n I s = n := by
    unfold in_n
    rw [f2, io_ti (by omega)]
    omega
  rw [e]
  have ef : ∀ a, a < n → (fun k => J 4 (288 * s + k)) (0 + a) = J 4 (288 * s + a) := fun a _ => by
    show J 4 (288 * s + (0 + a)) = _
    rw [Nat.zero_add]
  exact ⟨f2, f4, sh, tn, f1, srt_congr ef f3, f4, fun w => (in_congr ef w).trans (f5 w)⟩
theorem lx_spots (hX2 : X.1 < 2 ^ 31) (hh : cx_hok cx_B0 I R T) (hr : rl I J) (x : Int32) : ev_W X 46 0 (ez_lay [.ref 0, .int x]) [] (ev_hp I J R T) 0 0 (lw_mid T (fun v I1 J1 _ _ => v = mi_spots (in_n I) (I 3 3).toInt.toNat x ∧ I1 = I ∧ J1 = J)) := by
  have hs := (b_sh hh.1).1
  refine lx_p cv_46_0 hX2 hh ao_1 (fun N => pe_spots (N := N) (n := in_n I) (io_nat hs.1) (by omega) fun s h => (fi_n hr h).1) ?_
  rintro r h1 I' J' R' T' ⟨rfl, -⟩ - hf -
  obtain ⟨rfl, rfl⟩ := cx_fr_nil hf
  exact ⟨_, rfl, rfl, rfl, rfl⟩
theorem rl_fr {md : List (Nat × Nat)} {I2 : Nat → Nat → Int32} {J2 : Nat → Nat → Int64} (h1 : kt_fx md = true) (h2 : kt_fm md = true) (h3 : fi_fr md = true) (hf : cx_fr md I J I2 J2) (hr : rl I J) : rl I2 J2 := ⟨by rw [kx_fr h1 hf, km_fr h2 hf]; exact hr.1, fi_fr_s h3 hf hr.2⟩
theorem lm_spots (hX2 : X.1 < 2 ^ 31) (hr : rl I J) (x : Int32) (hh1 : cx_hok cx_B0 I1 R1 T1) (hm : v = mi_spots (in_n I) (I 3 3).toInt.toNat x ∧ I1 = I ∧ J1 = J) : ev_W X 223 0 (ez_lay [.ref 35, .int x]) [] (ev_hp I1 J1 R1 T1) 0 0 (lw_mid T1 (fun u I2 J2 _ _ => u = v ∧ rl I2 J2)) := by
  obtain ⟨rfl, rfl, rfl⟩ := hm
  have hs := (b_sh hh1.1).1
  refine lx_p cv_223_0 hX2 hh1 ao_1 (fun N => pe_mspots (N := N) (n := in_n I1) (f := fun s k => J1 4 (288 * s + k)) (ns := (I1 3 3).toInt.toNat) hh1.1 (by rw [← (km_0 hr.1).2.2.2]; exact io_nat hs.1) (by omega) fun s h => (fi_n hr h).2.2) ?_
  rintro r h1 I' J' R' T' rfl - hf -
  exact ⟨_, rfl, rfl, rl_fr (by rfl) (by rfl) (by rfl) hf hr⟩
theorem lx_spot (hX2 : X.1 < 2 ^ 31) (hh : cx_hok cx_B0 I R T) (hr : rl I J) (x y : Int32) : ev_W X 44 0 (ez_lay [.ref 0, .int x, .int y]) [] (ev_hp I J R T) 0 0 (lw_midL T (fun v I1 J1 _ _ => v = mi_spot (in_n I) (fun s k => J 4 (288 * s + k)) (I 3 3).toInt.toNat x y ∧ I1 = I ∧ J1 = J)) := by
  have hs := (b_sh hh.1).1
  refine lx_pL cv_44_0 hX2 hh ao_2 (fun N => pe_spot (N := N) (n := in_n I) (f := fun s k => J 4 (288 * s + k)) (io_nat hs.1) (by omega) (fun s h => ⟨(fi_n hr h).1, (fi_n hr h).2.1⟩) fun s k _ _ => rfl) ?_
  rintro r h1 I' J' R' T' ⟨rfl, -⟩ - hf -
  obtain ⟨rfl, rfl⟩ := cx_fr_nil hf
  exact ⟨_, rfl, rfl, rfl, rfl⟩
theorem lm_spot {v : Int64} (hX2 : X.1 < 2 ^ 31) (hr : rl I J) (x y : Int32) (hh1 : cx_hok cx_B0 I1 R1 T1) (hm : v = mi_spot (in_n I) (fun s k => J 4 (288 * s + k)) (I 3 3).toInt.toNat x y ∧ I1 = I ∧ J1 = J) : ev_W X 222 0 (ez_lay [.ref 35, .int x, .int y]) [] (ev_hp I1 J1 R1 T1) 0 0 (lw_midL T1 (fun u I2 J2 _ _ => u = v ∧ rl I2 J2)) := by
  obtain ⟨rfl, rfl, rfl⟩ := hm
  have hs := (b_sh hh1.1).1
  refine lx_pL cv_222_0 hX2 hh1 ao_2 (fun N => pe_mspot (N := N) (n := in_n I1) (f := fun s k => J1 4 (288 * s + k)) (ns := (I1 3 3).toInt.toNat) hh1.1 (by rw [← (km_0 hr.1).2.2.2]; exact io_nat hs.1) (by omega) fun s h => (fi_n hr h).2.2) ?_
  rintro r h1 I' J' R' T' rfl - hf -
  exact ⟨_, rfl, rfl, rl_fr (by rfl) (by rfl) (by rfl) hf hr⟩
end
end
