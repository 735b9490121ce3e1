/-! Steps that a walk takes by hand: arrays at any place, a division; and what reads and writes within a row's ends come to. -/
/-- a place within a row -/
def ev_ix (i : Int32) (n : Nat) : Prop := ¬ i < 0 ∧ i.toNatClampNeg < n
theorem ev_in_ok {α : Type} {i : Int32} {n : Nat} (hi : ev_ix i n) (x : α) : ez_in i n x = some x := by
  unfold ez_in
  rw [decide_eq_false hi.1, show Nat.ble n i.toNatClampNeg = false from by
    cases hz : Nat.ble n i.toNatClampNeg with
    | false => rfl
    | true => exact absurd (Nat.le_of_ble_eq_true hz) (Nat.not_le.mpr hi.2)]
  rfl
section EVB
variable {X : ez_X} {m pc a b cut w d n p : Nat} {ls st : List Value} {h : ez_H} {c k : Nat} {Q : ev_Q} {i x : Int32} {y : Int64} {f : Nat → Int32} {g : Nat → Int64}
theorem ev_up1 (G : ez_F) : fx_up X 1 G = ez_stp ez_P0 X ez_ty0 ez_nw0 (ez_mL ez_M0) G := by
  funext m pc ls st h c k
  show ft_P X m pc G m pc ls st h c k = _
  rw [fk_P X m pc]
  rfl
theorem ev_cut2 (n : Nat) (ls : List Value) : ez_cut n (ez_cut n ls) = ez_cut n ls := by
  unfold ez_cut
  cases Nat.ble 200 n with
  | true => rfl
  | false => simp [List.take_take]
/-- what an instruction forgets of the locals may be forgotten ahead of it -/
theorem ev_cutl {i : Instr} {len : Nat} (hP : ez_P0 m pc = some (i, len, a, b, cut, w, d)) (e : ev_W X m pc (ez_cut cut ls) st h c k Q) : ev_W X m pc ls st h c k Q := by
  obtain ⟨r, h1, c1, k1, hQ, F, hF⟩ := e
  refine ⟨r, h1, c1, k1, hQ, F + 1, fun n => ?_⟩
  have h2 := hF (n + 1)
  rw [show F + (n + 1) = (F + n) + 1 by omega, ← fx_up_ev, ev_up1] at h2
  rw [show F + 1 + n = (F + n) + 1 by omega, ← fx_up_ev, ev_up1]
  rw [← h2]
  unfold ez_stp
  rw [hP]
  simp only [ev_cut2]
/-- a truth value that is known to be one is answered -/
theorem ev_zret {v : Int32} (hP : ez_P0 m pc = some (.ireturn, 1, a, 1, cut, w, d)) (hv : v = 0 ∨ v = 1) (e : Q (some (.int v)) h c k) : ev_W X m pc ls [.int v] h c k Q := by
  refine ev_ret (a := 1) (fun G => ?_) e
  rw [ev_up1]
  unfold ez_stp
  rw [hP]
  rcases hv with rfl | rfl <;> rfl
/-- a switch at a number that stands in no row of it -/
theorem ev_swd {dflt lo hi : Int} {offs : Array Int} {len q : Nat} {v : Int32} (hP : ez_P0 m pc = some (.tableswitch dflt lo hi offs, len, a, b, cut, w, d)) (hv : v.toInt < lo ∨ hi < v.toInt) (hq : ez_tg pc dflt = some q)
    (e : ev_W X m q (ez_cut cut ls) st h c k Q) : ev_W X m pc ls (.int v :: st) h c k Q := by
  refine ev_seg (a := 1) (fun G => ?_) e
  rw [ev_up1]
  unfold ez_stp
  rw [hP]
  have e1 : ez_sw dflt lo hi offs pc v = some q := by
    unfold ez_sw
    rw [decide_eq_true hv]
    exact hq
  simp only [e1]
theorem ev_iald (hP : ez_P0 m pc = some (.iaload, 1, a, b, cut, w, d)) (hp : h[p]? = some (.inl (n, .inl f))) (hi : ev_ix i n)
    (e : ev_W X m (pc + 1) (ez_cut cut ls) (.int (f i.toNatClampNeg) :: st) h c k Q) : ev_W X m pc ls (.int i :: .ref p :: st) h c k Q := by
  refine ev_seg (a := 1) (fun F => ?_) e
  rw [ev_up1]
  unfold ez_stp
  rw [hP]
  have e1 : ez_iald X h (.int i :: .ref p :: st) = some (.int (f i.toNatClampNeg) :: st) := by simp only [ez_iald, hp]; exact ev_in_ok hi _
  simp only [ez_b, e1, Option.map]
theorem ev_lald (hP : ez_P0 m pc = some (.laload, 1, a, b, cut, w, d)) (hp : h[p]? = some (.inl (n, .inr (.inl g)))) (hi : ev_ix i n)
    (e : ev_W X m (pc + 1) (ez_cut cut ls) (.long (g i.toNatClampNeg) :: st) h c k Q) : ev_W X m pc ls (.int i :: .ref p :: st) h c k Q := by
  refine ev_seg (a := 1) (fun F => ?_) e
  rw [ev_up1]
  unfold ez_stp
  rw [hP]
  have e1 : ez_lald h (.int i :: .ref p :: st) = some (.long (g i.toNatClampNeg) :: st) := by simp only [ez_lald, hp]; exact ev_in_ok hi _
  simp only [ez_b, e1, Option.map]
theorem ev_iast (hP : ez_P0 m pc = some (.iastore, 1, a, b, cut, w, d)) (hp : h[p]? = some (.inl (n, .inl f))) (hi : ev_ix i n)
    (e : ev_W X m (pc + 1) (ez_cut cut ls) st (h.set p (.inl (n, .inl (upd f i.toNatClampNeg x)))) c k Q) : ev_W X m pc ls (.int x :: .int i :: .ref p :: st) h c k Q := by
  refine ev_seg (a := 1) (fun F => ?_) e
  rw [ev_up1]
  unfold ez_stp
  rw [hP]
  have e1 : ez_iast h (.int x :: .int i :: .ref p :: st) = some (st, h.set p (.inl (n, .inl (upd f i.toNatClampNeg x)))) := by simp only [ez_iast, hp]; exact ev_in_ok hi _
  simp only [ez_b, e1, Option.map]
theorem ev_last (hP : ez_P0 m pc = some (.lastore, 1, a, b, cut, w, d)) (hp : h[p]? = some (.inl (n, .inr (.inl g)))) (hi : ev_ix i n)
    (e : ev_W X m (pc + 1) (ez_cut cut ls) st (h.set p (.inl (n, .inr (.inl (vp_updL g i.toNatClampNeg y))))) c k Q) : ev_W X m pc ls (.long y :: .int i :: .ref p :: st) h c k Q := by
  refine ev_seg (a := 1) (fun F => ?_) e
  rw [ev_up1]
  unfold ez_stp
  rw [hP]
  have e1 : ez_last h (.long y :: .int i :: .ref p :: st) = some (st, h.set p (.inl (n, .inr (.inl (vp_updL g i.toNatClampNeg y))))) := by simp only [ez_last, hp]; exact ev_in_ok hi _
  simp only [ez_b, e1, Option.map]
theorem ev_iastH {h2 : ez_H} (hP : ez_P0 m pc = some (.iastore, 1, a, b, cut, w, d)) (hp : h[p]? = some (.inl (n, .inl f))) (hi : ev_ix i n) (hs : h.set p (.inl (n, .inl (upd f i.toNatClampNeg x))) = h2)
    (e : ev_W X m (pc + 1) (ez_cut cut ls) st h2 c k Q) : ev_W X m pc ls (.int x :: .int i :: .ref p :: st) h c k Q := by
  subst hs
  exact ev_iast hP hp hi e
theorem ev_lastH {h2 : ez_H} (hP : ez_P0 m pc = some (.lastore, 1, a, b, cut, w, d)) (hp : h[p]? = some (.inl (n, .inr (.inl g)))) (hi : ev_ix i n) (hs : h.set p (.inl (n, .inr (.inl (vp_updL g i.toNatClampNeg y)))) = h2)
    (e : ev_W X m (pc + 1) (ez_cut cut ls) st h2 c k Q) : ev_W X m pc ls (.long y :: .int i :: .ref p :: st) h c k Q := by
  subst hs
  exact ev_last hP hp hi e
theorem ev_alenI (hP : ez_P0 m pc = some (.arraylength, 1, a, b, cut, w, d)) (hp : h[p]? = some (.inl (n, .inl f)))
    (e : ev_W X m (pc + 1) (ez_cut cut ls) (.int (Int32.ofNat n) :: st) h c k Q) : ev_W X m pc ls (.ref p :: st) h c k Q := by
  refine ev_seg (a := 1) (fun F => ?_) e
  rw [ev_up1]
  unfold ez_stp
  rw [hP]
  have e1 : ez_alen X h (.ref p :: st) = some (.int (Int32.ofNat n) :: st) := by simp only [ez_alen, hp]
  simp only [ez_b, e1, Option.map]
theorem ev_alenJ (hP : ez_P0 m pc = some (.arraylength, 1, a, b, cut, w, d)) (hp : h[p]? = some (.inl (n, .inr (.inl g))))
    (e : ev_W X m (pc + 1) (ez_cut cut ls) (.int (Int32.ofNat n) :: st) h c k Q) : ev_W X m pc ls (.ref p :: st) h c k Q := by
  refine ev_seg (a := 1) (fun F => ?_) e
  rw [ev_up1]
  unfold ez_stp
  rw [hP]
  have e1 : ez_alen X h (.ref p :: st) = some (.int (Int32.ofNat n) :: st) := by simp only [ez_alen, hp]
  simp only [ez_b, e1, Option.map]
theorem ev_idiv {u v : Int32} (hP : ez_P0 m pc = some (.idiv, 1, a, b, cut, w, d)) (hv : ¬ v = 0)
    (e : ev_W X m (pc + 1) (ez_cut cut ls) (.int (u / v) :: st) h c k Q) : ev_W X m pc ls (.int v :: .int u :: st) h c k Q := by
  refine ev_seg (a := 1) (fun F => ?_) e
  rw [ev_up1]
  unfold ez_stp
  rw [hP]
  have e1 : ez_binD (fun x y => x / y) (.int v :: .int u :: st) = some (.int (u / v) :: st) := by simp only [ez_binD, decide_eq_false hv]; rfl
  simp only [ez_b, e1, Option.map]
theorem ev_irem {u v : Int32} (hP : ez_P0 m pc = some (.irem, 1, a, b, cut, w, d)) (hv : ¬ v = 0)
    (e : ev_W X m (pc + 1) (ez_cut cut ls) (.int (u - u / v * v) :: st) h c k Q) : ev_W X m pc ls (.int v :: .int u :: st) h c k Q := by
  refine ev_seg (a := 1) (fun F => ?_) e
  rw [ev_up1]
  unfold ez_stp
  rw [hP]
  have e1 : ez_binD (fun x y => x - x / y * y) (.int v :: .int u :: st) = some (.int (u - u / v * v) :: st) := by simp only [ez_binD, decide_eq_false hv]; rfl
  simp only [ez_b, e1, Option.map]
end EVB
/-- what is answered, and nothing else has changed -/
abbrev ev_is (v : Option Value) (h : ez_H) : ev_Q := fun r h1 c1 k1 => r = v ∧ h1 = h ∧ c1 = 0 ∧ k1 = 0
def ev_at (n : Nat) (f : Nat → Int32) (i : Int32) : Int32 := if i < 0 then 0 else if Int32.ofNat n ≤ i then 0 else f i.toNatClampNeg
def ev_atJ (n : Nat) (f : Nat → Int64) (i : Int32) : Int64 := if i < 0 then 0 else if Int32.ofNat n ≤ i then 0 else f i.toNatClampNeg
def ev_put (n : Nat) (f : Nat → Int32) (i : Int32) (v : Int32) : Nat → Int32 := if i < 0 then f else if Int32.ofNat n ≤ i then f else upd f i.toNatClampNeg v
def ev_putJ (n : Nat) (f : Nat → Int64) (i : Int32) (v : Int64) : Nat → Int64 := if i < 0 then f else if Int32.ofNat n ≤ i then f else vp_updL f i.toNatClampNeg v
theorem ev_ix_of {i : Int32} {n : Nat} (hn : n < 2 ^ 31) (h0 : ¬ i < 0) (h1 : ¬ Int32.ofNat n ≤ i) : ev_ix i n := by
  refine ⟨h0, ?_⟩
  have e1 : (Int32.ofNat n).toInt = n := Int32.toInt_ofNat_of_lt hn
  have h2 : ¬ (Int32.ofNat n).toInt ≤ i.toInt := fun z => h1 (Int32.le_iff_toInt_le.mpr z)
  have h3 : ¬ i.toInt < 0 := fun z => h0 (Int32.lt_iff_toInt_lt.mpr z)
  have e2 : i.toNatClampNeg = i.toInt.toNat := rfl
  omega
theorem ev_set_self {h : ez_H} {p : Nat} {x : ez_C} (hp : h[p]? = some x) : h.set p x = h := by
  apply List.ext_getElem?
  intro j
  rw [List.getElem?_set]
  split
  · rename_i hz
    subst hz
    split
    · exact hp.symm
    · rename_i hl
      rw [List.getElem?_eq_none (Nat.not_lt.mp hl)] at hp
      cases hp
  · rfl
