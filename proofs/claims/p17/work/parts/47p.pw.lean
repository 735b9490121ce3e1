/-! Runs that come to an end within N steps: what holds there. That they do come to one, the contracts say. -/
abbrev pw_Q : Type := Option Value → ez_H → Prop
def pw (N : Nat) (X : ez_X) (m pc : Nat) (ls st : List Value) (h : ez_H) (Q : pw_Q) : Prop := ∀ (c k F : Nat), F ≤ N → ∀ (r : Option Value) (h' : ez_H) (c' k' : Nat), ev_R X F m pc ls st h c k = some (r, h', c', k') → Q r h'
section
variable {N : Nat} {X : ez_X} {m pc pc' : Nat} {ls ls' st st' : List Value} {h h' : ez_H} {Q : pw_Q}
theorem pw_le {N' : Nat} (e : pw N X m pc ls st h Q) (hN : N' ≤ N) : pw N' X m pc ls st h Q := fun c k F hF => e c k F (Nat.le_trans hF hN)
theorem pw_p (e : pw (N + 1) X m pc ls st h Q) : pw N X m pc ls st h Q := pw_le e (Nat.le_succ N)
theorem pw_mono {Q' : pw_Q} (e : pw N X m pc ls st h Q) (hQ : ∀ r h1, Q r h1 → Q' r h1) : pw N X m pc ls st h Q' := fun c k F hF r h1 c1 k1 hz => hQ _ _ (e c k F hF r h1 c1 k1 hz)
theorem pw_and {Q' : pw_Q} (e : pw N X m pc ls st h Q) (e' : pw N X m pc ls st h Q') : pw N X m pc ls st h (fun r h1 => Q r h1 ∧ Q' r h1) := fun c k F hF r h1 c1 k1 hz => ⟨e c k F hF r h1 c1 k1 hz, e' c k F hF r h1 c1 k1 hz⟩
theorem pw_up {a : Nat} (ha : 0 < a) (e : ∀ (c k F : Nat), F ≤ N → ∀ (r : Option Value) (h1 : ez_H) (c1 k1 : Nat), fx_up X a (ev_R X F) m pc ls st h c k = some (r, h1, c1, k1) → Q r h1) : pw (N + 1) X m pc ls st h Q := by
  intro c k F hF r h1 c1 k1 hz
  cases F with
  | zero => cases hz
  | succ F =>
    refine e c k F (by omega) r h1 c1 k1 ?_
    rw [fx_up_ev, show F + a = F + 1 + (a - 1) by omega]
    exact ev_mono X (F + 1) (a - 1) hz
theorem pw_seg {a : Nat} (ha : 0 < a) (s : ∀ (c k : Nat) (G : ez_F), fx_up X a G m pc ls st h c k = G m pc' ls' st' h' c k) (e : pw N X m pc' ls' st' h' Q) : pw (N + 1) X m pc ls st h Q :=
  pw_up ha fun c k F hF r h1 c1 k1 hz => e c k F hF r h1 c1 k1 ((s c k _).symm.trans hz)
theorem pw_ret {a : Nat} {r0 : Option Value} (ha : 0 < a) (s : ∀ (c k : Nat) (G : ez_F), fx_up X a G m pc ls st h c k = some (r0, h', c, k)) (e : Q r0 h') : pw (N + 1) X m pc ls st h Q :=
  pw_up ha fun c k F hF r h1 c1 k1 hz => by
    rw [s] at hz
    injection hz with hz
    injection hz with z1 hz
    injection hz with z2 hz
    subst z1 z2
    exact e
theorem pw_if {a pc1 pc2 : Nat} {P : Prop} {d : Decidable P} {ls1 ls2 st1 st2 : List Value} {h1 h2 : ez_H} (ha : 0 < a) (s : ∀ (c k : Nat) (G : ez_F), fx_up X a G m pc ls st h c k = bif @decide P d then G m pc1 ls1 st1 h1 c k else G m pc2 ls2 st2 h2 c k)
    (e1 : P → pw N X m pc1 ls1 st1 h1 Q) (e2 : ¬ P → pw N X m pc2 ls2 st2 h2 Q) : pw (N + 1) X m pc ls st h Q :=
  pw_up ha fun c k F hF r h3 c1 k1 hz => by
    rw [s] at hz
    by_cases hP : P
    · rw [decide_eq_true hP] at hz
      exact e1 hP c k F hF r h3 c1 k1 hz
    · rw [decide_eq_false hP] at hz
      exact e2 hP c k F hF r h3 c1 k1 hz
theorem pw_0 : pw 0 X m pc ls st h Q := fun c k F hF r h1 c1 k1 hz => by
  obtain rfl := Nat.le_zero.mp hF
  cases hz
/-- a method from its beginning -/
def pe (N : Nat) (X : ez_X) (q : Nat) (as : List Value) (h : ez_H) (Q : pw_Q) : Prop := ∀ F, F ≤ N → ∀ (r : Option Value) (h' : ez_H) (c' k' : Nat), ev_R X F q 0 (ez_lay as) [] h 0 0 = some (r, h', c', k') → Q r h'
theorem pe_of {q : Nat} {as : List Value} (e : pw N X q 0 (ez_lay as) [] h Q) : pe N X q as h Q := e 0 0
theorem pe_mono {q : Nat} {as : List Value} {Q' : pw_Q} (e : pe N X q as h Q) (hQ : ∀ r h1, Q r h1 → Q' r h1) : pe N X q as h Q' := fun F hF r h1 c1 k1 hz => hQ _ _ (e F hF r h1 c1 k1 hz)
theorem pe_and {q : Nat} {as : List Value} {Q' : pw_Q} (e : pe N X q as h Q) (e' : pe N X q as h Q') : pe N X q as h (fun r h1 => Q r h1 ∧ Q' r h1) := fun F hF r h1 c1 k1 hz => ⟨e F hF r h1 c1 k1 hz, e' F hF r h1 c1 k1 hz⟩
theorem pw_call {a q : Nat} {as : List Value} {Q1 : pw_Q} (ha : 0 < a) (s : ∀ (c k : Nat) (G : ez_F), fx_up X a G m pc ls st h c k = ev_C G q as h' fun r h1 c1 k1 => G m pc' ls' (r.toList ++ st') h1 (c + c1) (k + k1))
    (e : pe N X q as h' Q1) (e2 : ∀ (r : Option Value) (h1 : ez_H), Q1 r h1 → pw N X m pc' ls' (r.toList ++ st') h1 Q) : pw (N + 1) X m pc ls st h Q :=
  pw_up ha fun c k F hF r h1 c1 k1 hz => by
    rw [s] at hz
    unfold ev_C at hz
    split at hz
    · rename_i r2 h2 c2 k2 hz2
      exact e2 r2 h2 (e F hF r2 h2 c2 k2 hz2) _ _ F hF r h1 c1 k1 hz
    · cases hz
/-- an end is one -/
theorem ev_det {c k F F' : Nat} {x x' : Option Value × ez_H × Nat × Nat} (e : ev_R X F m pc ls st h c k = some x) (e' : ev_R X F' m pc ls st h c k = some x') : x = x' := by
  have a := ev_mono X F F' e
  have b := ev_mono X F' F e'
  rw [Nat.add_comm F' F, a] at b
  injection b
theorem pe_W {q : Nat} {as : List Value} {Q1 : ev_Q} (e : ev_W X q 0 (ez_lay as) [] h 0 0 Q1) : pe N X q as h (fun r h1 => ∃ c1 k1, Q1 r h1 c1 k1) := by
  intro F _ r h1 c1 k1 hz
  obtain ⟨r2, h2, c2, k2, q, F2, hF2⟩ := e
  have := ev_det hz (hF2 0)
  injection this with t1 this
  injection this with t2 this
  injection this with t3 t4
  subst t1 t2 t3 t4
  exact ⟨_, _, q⟩
theorem pe_is {q : Nat} {as : List Value} {r0 : Option Value} {h0 : ez_H} (e : ev_W X q 0 (ez_lay as) [] h 0 0 (ev_is r0 h0)) : pe N X q as h (fun r h1 => r = r0 ∧ h1 = h0) := pe_mono (pe_W e) fun r h1 ⟨_, _, z1, z2, _⟩ => ⟨z1, z2⟩
theorem pw_callp {a q : Nat} {as : List Value} {r0 : Option Value} {h0 : ez_H} (ha : 0 < a) (s : ∀ (c k : Nat) (G : ez_F), fx_up X a G m pc ls st h c k = ev_C G q as h' fun r h1 c1 k1 => G m pc' ls' (r.toList ++ st') h1 (c + c1) (k + k1))
    (e : pe N X q as h' (fun r h1 => r = r0 ∧ h1 = h0)) (e2 : pw N X m pc' ls' (r0.toList ++ st') h0 Q) : pw (N + 1) X m pc ls st h Q :=
  pw_call ha s e fun r h1 hz => by rw [hz.1, hz.2]; exact e2
/-- what the contract says, and what holds at every end -/
theorem W_pe {q : Nat} {as : List Value} {Q1 : ev_Q} {Q2 : pw_Q} (e : ev_W X q 0 (ez_lay as) [] h 0 0 Q1) (e2 : ∀ N, pe N X q as h Q2) : ev_W X q 0 (ez_lay as) [] h 0 0 (fun r h1 c1 k1 => Q1 r h1 c1 k1 ∧ Q2 r h1) := by
  obtain ⟨r, h1, c1, k1, hq, F, hF⟩ := e
  exact ⟨r, h1, c1, k1, ⟨hq, e2 F F (Nat.le_refl F) r h1 c1 k1 (hF 0)⟩, F, hF⟩
end
section
variable {N : Nat} {X : ez_X} {m pc a b cut w d n p : Nat} {ls st : List Value} {h : ez_H} {Q : pw_Q} {i x : Int32} {y : Int64} {f : Nat → Int32} {g : Nat → Int64}
theorem ev_in_inv {α : Type} {i : Int32} {n : Nat} {x y : α} (h : ez_in i n x = some y) : ev_ix i n ∧ x = y := by
  unfold ez_in at h
  cases h1 : decide (i < 0) with
  | true => rw [h1] at h; cases h
  | false =>
    rw [h1] at h
    cases h2 : Nat.ble n i.toNatClampNeg with
    | true => rw [h2] at h; cases h
    | false =>
      rw [h2] at h
      simp only [cond_false] at h
      injection h with h
      refine ⟨⟨of_decide_eq_false h1, ?_⟩, h⟩
      apply Classical.byContradiction
      intro h3
      rw [Nat.ble_eq_true_of_le (Nat.not_lt.mp h3)] at h2
      cases h2
/-- one instruction of those that neither call, jump nor end -/
theorem pw_b {len : Nat} {I : Instr} (e1 : ∀ (G : ez_F) (c k : Nat), ez_stp ez_P0 X ez_ty0 ez_nw0 (ez_mL ez_M0) G m pc ls st h c k = match ez_b X ez_ty0 I a b (ez_cut cut ls) st h with
      | some (ls', st', h') => G m (pc + len) ls' st' h' c k
      | none => none) (e : ∀ ls' st' h', ez_b X ez_ty0 I a b (ez_cut cut ls) st h = some (ls', st', h') → pw N X m (pc + len) ls' st' h' Q) : pw (N + 1) X m pc ls st h Q :=
  pw_up (a := 1) (by decide) fun c k F hF r h1 c1 k1 hz => by
    rw [ev_up1, e1] at hz
    split at hz
    · rename_i ls' st' h' hb
      exact e ls' st' h' hb c k F hF r h1 c1 k1 hz
    · cases hz
theorem pw_iald (hP : ez_P0 m pc = some (.iaload, 1, a, b, cut, w, d)) (hp : h[p]? = some (.inl (n, .inl f)))
    (e : ev_ix i n → pw N X m (pc + 1) (ez_cut cut ls) (.int (f i.toNatClampNeg) :: st) h Q) : pw (N + 1) X m pc ls (.int i :: .ref p :: st) h Q := by
  refine pw_b (I := .iaload) (len := 1) (a := a) (b := b) (cut := cut) (fun G c k => ?_) fun ls' st' h' hb => ?_
  · unfold ez_stp
    rw [hP]
    rfl
  · simp only [ez_b, ez_iald, hp] at hb
    obtain ⟨z, h1, h2⟩ := Option.map_eq_some_iff.mp hb
    obtain ⟨h3, h4⟩ := ev_in_inv h1
    injection h2 with h2 h5
    injection h5 with h5 h6
    subst h2 h5 h6 h4
    exact e h3
theorem pw_lald (hP : ez_P0 m pc = some (.laload, 1, a, b, cut, w, d)) (hp : h[p]? = some (.inl (n, .inr (.inl g))))
    (e : ev_ix i n → pw N X m (pc + 1) (ez_cut cut ls) (.long (g i.toNatClampNeg) :: st) h Q) : pw (N + 1) X m pc ls (.int i :: .ref p :: st) h Q := by
  refine pw_b (I := .laload) (len := 1) (a := a) (b := b) (cut := cut) (fun G c k => ?_) fun ls' st' h' hb => ?_
  · unfold ez_stp
    rw [hP]
    rfl
  · simp only [ez_b, ez_lald, hp] at hb
    obtain ⟨z, h1, h2⟩ := Option.map_eq_some_iff.mp hb
    obtain ⟨h3, h4⟩ := ev_in_inv h1
    injection h2 with h2 h5
    injection h5 with h5 h6
    subst h2 h5 h6 h4
    exact e h3
theorem pw_iast {h2 : ez_H} (hP : ez_P0 m pc = some (.iastore, 1, a, b, cut, w, d)) (hp : h[p]? = some (.inl (n, .inl f))) (hs : h.set p (.inl (n, .inl (upd f i.toNatClampNeg x))) = h2)
    (e : ev_ix i n → pw N X m (pc + 1) (ez_cut cut ls) st h2 Q) : pw (N + 1) X m pc ls (.int x :: .int i :: .ref p :: st) h Q := by
  refine pw_b (I := .iastore) (len := 1) (a := a) (b := b) (cut := cut) (fun G c k => ?_) fun ls' st' h' hb => ?_
  · unfold ez_stp
    rw [hP]
    rfl
  · simp only [ez_b, ez_iast, hp] at hb
    obtain ⟨z, h1, h3⟩ := Option.map_eq_some_iff.mp hb
    obtain ⟨h4, h5⟩ := ev_in_inv h1
    injection h3 with h3 h6
    injection h6 with h6 h7
    subst h3 h6 h7 h5
    rw [← hs] at e
    exact e h4
theorem pw_last {h2 : ez_H} (hP : ez_P0 m pc = some (.lastore, 1, a, b, cut, w, d)) (hp : h[p]? = some (.inl (n, .inr (.inl g)))) (hs : h.set p (.inl (n, .inr (.inl (vp_updL g i.toNatClampNeg y)))) = h2)
    (e : ev_ix i n → pw N X m (pc + 1) (ez_cut cut ls) st h2 Q) : pw (N + 1) X m pc ls (.long y :: .int i :: .ref p :: st) h Q := by
  refine pw_b (I := .lastore) (len := 1) (a := a) (b := b) (cut := cut) (fun G c k => ?_) fun ls' st' h' hb => ?_
  · unfold ez_stp
    rw [hP]
    rfl
  · simp only [ez_b, ez_last, hp] at hb
    obtain ⟨z, h1, h3⟩ := Option.map_eq_some_iff.mp hb
    obtain ⟨h4, h5⟩ := ev_in_inv h1
    injection h3 with h3 h6
    injection h6 with h6 h7
    subst h3 h6 h7 h5
    rw [← hs] at e
    exact e h4
theorem pw_alenI (hP : ez_P0 m pc = some (.arraylength, 1, a, b, cut, w, d)) (hp : h[p]? = some (.inl (n, .inl f))) (e : pw N X m (pc + 1) (ez_cut cut ls) (.int (Int32.ofNat n) :: st) h Q) : pw (N + 1) X m pc ls (.ref p :: st) h Q := by
  refine pw_b (I := .arraylength) (len := 1) (a := a) (b := b) (cut := cut) (fun G c k => ?_) fun ls' st' h' hb => ?_
  · unfold ez_stp
    rw [hP]
    rfl
  · simp only [ez_b, ez_alen, hp, Option.map_some] at hb
    injection hb with hb
    injection hb with h2 h5
    injection h5 with h5 h6
    subst h2 h5 h6
    exact e
theorem pw_alenJ (hP : ez_P0 m pc = some (.arraylength, 1, a, b, cut, w, d)) (hp : h[p]? = some (.inl (n, .inr (.inl g)))) (e : pw N X m (pc + 1) (ez_cut cut ls) (.int (Int32.ofNat n) :: st) h Q) : pw (N + 1) X m pc ls (.ref p :: st) h Q := by
  refine pw_b (I := .arraylength) (len := 1) (a := a) (b := b) (cut := cut) (fun G c k => ?_) fun ls' st' h' hb => ?_
  · unfold ez_stp
    rw [hP]
    rfl
  · simp only [ez_b, ez_alen, hp, Option.map_some] at hb
    injection hb with hb
    injection hb with h2 h5
    injection h5 with h5 h6
    subst h2 h5 h6
    exact e
theorem pw_idiv {u v : Int32} (hP : ez_P0 m pc = some (.idiv, 1, a, b, cut, w, d)) (e : ¬ v = 0 → pw N X m (pc + 1) (ez_cut cut ls) (.int (u / v) :: st) h Q) : pw (N + 1) X m pc ls (.int v :: .int u :: st) h Q := by
  refine pw_b (I := .idiv) (len := 1) (a := a) (b := b) (cut := cut) (fun G c k => ?_) fun ls' st' h' hb => ?_
  · unfold ez_stp
    rw [hP]
    rfl
  · simp only [ez_b, ez_binD] at hb
    by_cases hv : v = 0
    · rw [decide_eq_true hv] at hb
      cases hb
    · rw [decide_eq_false hv] at hb
      simp only [cond_false, Option.map_some] at hb
      injection hb with hb
      injection hb with h2 h5
      injection h5 with h5 h6
      subst h2 h5 h6
      exact e hv
theorem pw_irem {u v : Int32} (hP : ez_P0 m pc = some (.irem, 1, a, b, cut, w, d)) (e : ¬ v = 0 → pw N X m (pc + 1) (ez_cut cut ls) (.int (u - u / v * v) :: st) h Q) : pw (N + 1) X m pc ls (.int v :: .int u :: st) h Q := by
  refine pw_b (I := .irem) (len := 1) (a := a) (b := b) (cut := cut) (fun G c k => ?_) fun ls' st' h' hb => ?_
  · unfold ez_stp
    rw [hP]
    rfl
  · simp only [ez_b, ez_binD] at hb
    by_cases hv : v = 0
    · rw [decide_eq_true hv] at hb
      cases hb
    · rw [decide_eq_false hv] at hb
      simp only [cond_false, Option.map_some] at hb
      injection hb with hb
      injection hb with h2 h5
      injection h5 with h5 h6
      subst h2 h5 h6
      exact e hv
/-- a truth value is answered -/
theorem pw_zret {v : Int32} (hP : ez_P0 m pc = some (.ireturn, 1, a, 1, cut, w, d)) (e : v = 0 ∨ v = 1 → Q (some (.int v)) h) : pw (N + 1) X m pc ls [.int v] h Q :=
  pw_up (a := 1) (by decide) fun c k F hF r h1 c1 k1 hz => by
    rw [ev_up1] at hz
    unfold ez_stp at hz
    rw [hP] at hz
    have hz : (bif Nat.beq 1 0 || decide (v = 0) || decide (v = 1) then some (some (Value.int v), h, c, k) else none) = some (r, h1, c1, k1) := hz
    obtain ⟨z1, z2⟩ := ez_bif hz
    injection z2 with z2
    injection z2 with z3 z2
    injection z2 with z4 z5
    subst z3 z4
    refine e ?_
    simpa using z1
/-- what an instruction forgets of the locals may be forgotten ahead of it -/
theorem pw_cutl {I : Instr} {len : Nat} (hP : ez_P0 m pc = some (I, len, a, b, cut, w, d)) (e : pw N X m pc (ez_cut cut ls) st h Q) : pw N X m pc ls st h Q := by
  intro c k F hF r h1 c1 k1 hz
  cases F with
  | zero => cases hz
  | succ F =>
    refine e c k (F + 1) hF r h1 c1 k1 ?_
    rw [← fx_up_ev X F 1, ev_up1] at hz ⊢
    rw [← hz]
    unfold ez_stp
    rw [hP]
    simp only [ev_cut2]
end
/-! within a row's ends, by numbers -/
theorem ix_lt {j n : Nat} (hj : j < 2147483648) (h : ev_ix (Int32.ofNat j) n) : j < n := by
  have h2 := h.2
  rw [show (Int32.ofNat j).toNatClampNeg = (Int32.ofNat j).toInt.toNat from rfl, Int32.toInt_ofNat_of_lt (by omega)] at h2
  omega
theorem ix_cl {j : Nat} (hj : j < 2147483648) : (Int32.ofNat j).toNatClampNeg = j := by
  rw [show (Int32.ofNat j).toNatClampNeg = (Int32.ofNat j).toInt.toNat from rfl, Int32.toInt_ofNat_of_lt (by omega)]
  rfl
theorem io_add (a b : Nat) : Int32.ofNat a + Int32.ofNat b = Int32.ofNat (a + b) := (Int32.ofNat_add a b).symm
theorem io_mul (a b : Nat) : Int32.ofNat a * Int32.ofNat b = Int32.ofNat (a * b) := (Int32.ofNat_mul a b).symm
theorem io_sub {a b : Nat} (h : b ≤ a) : Int32.ofNat a - Int32.ofNat b = Int32.ofNat (a - b) := by
  have e : Int32.ofNat a = Int32.ofNat (a - b) + Int32.ofNat b := by rw [io_add]; congr 1; omega
  rw [e, Int32.add_sub_cancel]
theorem io_le {a b : Nat} (ha : a < 2147483648) (hb : b < 2147483648) : Int32.ofNat a ≤ Int32.ofNat b ↔ a ≤ b := by
  rw [Int32.le_iff_toInt_le, Int32.toInt_ofNat_of_lt (by omega), Int32.toInt_ofNat_of_lt (by omega)]
  omega
theorem io_lt {a b : Nat} (ha : a < 2147483648) (hb : b < 2147483648) : Int32.ofNat a < Int32.ofNat b ↔ a < b := by
  rw [Int32.lt_iff_toInt_lt, Int32.toInt_ofNat_of_lt (by omega), Int32.toInt_ofNat_of_lt (by omega)]
  omega
theorem io_eq {a b : Nat} (ha : a < 2147483648) (hb : b < 2147483648) : Int32.ofNat a = Int32.ofNat b ↔ a = b := by
  rw [← Int32.toInt_inj, Int32.toInt_ofNat_of_lt (by omega), Int32.toInt_ofNat_of_lt (by omega)]
  omega
theorem io_nat {x : Int32} (h : 0 ≤ x.toInt) : x = Int32.ofNat x.toInt.toNat := Int32.toInt_inj.mp (by
  have := Int32.toInt_lt x
  rw [Int32.toInt_ofNat_of_lt (by omega)]
  omega)
theorem io_ti {a : Nat} (h : a < 2147483648) : (Int32.ofNat a).toInt = a := Int32.toInt_ofNat_of_lt (by omega)
theorem io_cl {a : Nat} (h : a < 2147483648) : (Int32.ofNat a).toNatClampNeg = a := ix_cl h
/-! what reads and writes within a row's ends come to -/
section
variable {N : Nat} {X : ez_X} {I : Nat → Nat → Int32} {J : Nat → Nat → Int64} {R : Nat → Nat} {T : List ez_C} {p n : Nat} {t : List (Nat × Nat)} {i x : Int32} {y : Int64}
theorem pe_at (hd : cx_Ds[p]? = some (0, n, t)) (hn : n < 2 ^ 31) : pe N X 3 [.ref p, .int i] (ev_hp I J R T) (fun r h => r = some (.int (ev_at n (I p) i)) ∧ h = ev_hp I J R T) := pe_is (ec_at X _ n p i (I p) (cx_getI hd) hn)
theorem pe_atJ (hd : cx_Ds[p]? = some (1, n, t)) (hn : n < 2 ^ 31) : pe N X 4 [.ref p, .int i] (ev_hp I J R T) (fun r h => r = some (.long (ev_atJ n (J p) i)) ∧ h = ev_hp I J R T) := pe_is (ec_atJ X _ n p i (J p) (cx_getJ hd) hn)
theorem pe_put (hd : cx_Ds[p]? = some (0, n, t)) (hn : n < 2 ^ 31) : pe N X 38 [.ref p, .int i, .int x] (ev_hp I J R T) (fun r h => r = none ∧ h = ev_hp (ev_sI I p (ev_put n (I p) i x)) J R T) := by
  have e := pe_is (N := N) (ec_put X _ n p i x (I p) (cx_getI (I := I) (J := J) (R := R) (T := T) hd) hn)
  rw [cx_setI hd] at e
  exact e
theorem pe_putJ (hd : cx_Ds[p]? = some (1, n, t)) (hn : n < 2 ^ 31) : pe N X 39 [.ref p, .int i, .long y] (ev_hp I J R T) (fun r h => r = none ∧ h = ev_hp I (ev_sJ J p (ev_putJ n (J p) i y)) R T) := by
  have e := pe_is (N := N) (ec_putJ X _ n p i y (J p) (cx_getJ (I := I) (J := J) (R := R) (T := T) hd) hn)
  rw [cx_setJ hd] at e
  exact e
end
theorem at_in {n j : Nat} {f : Nat → Int32} (hj : j < n) (hn : n < 2147483648) : ev_at n f (Int32.ofNat j) = f j := by
  unfold ev_at
  rw [if_neg (by rw [show (0 : Int32) = Int32.ofNat 0 from rfl, io_lt (by omega) (by omega)]; omega), if_neg (by rw [io_le (by omega) (by omega)]; omega), ix_cl (by omega)]
theorem atJ_in {n j : Nat} {f : Nat → Int64} (hj : j < n) (hn : n < 2147483648) : ev_atJ n f (Int32.ofNat j) = f j := by
  unfold ev_atJ
  rw [if_neg (by rw [show (0 : Int32) = Int32.ofNat 0 from rfl, io_lt (by omega) (by omega)]; omega), if_neg (by rw [io_le (by omega) (by omega)]; omega), ix_cl (by omega)]
theorem put_in {n j : Nat} {f : Nat → Int32} {x : Int32} (hj : j < n) (hn : n < 2147483648) : ev_put n f (Int32.ofNat j) x = upd f j x := by
  unfold ev_put
  rw [if_neg (by rw [show (0 : Int32) = Int32.ofNat 0 from rfl, io_lt (by omega) (by omega)]; omega), if_neg (by rw [io_le (by omega) (by omega)]; omega), ix_cl (by omega)]
theorem putJ_in {n j : Nat} {f : Nat → Int64} {x : Int64} (hj : j < n) (hn : n < 2147483648) : ev_putJ n f (Int32.ofNat j) x = vp_updL f j x := by
  unfold ev_putJ
  rw [if_neg (by rw [show (0 : Int32) = Int32.ofNat 0 from rfl, io_lt (by omega) (by omega)]; omega), if_neg (by rw [io_le (by omega) (by omega)]; omega), ix_cl (by omega)]
