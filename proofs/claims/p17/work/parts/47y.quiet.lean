/-! A second, small checker: which cells a method leaves as they are. A value is 0 (any), 1 (a reference to a cell that isn't kept), p + 2 (a reference to the cell p). S: the cells that are kept. -/
abbrev q_A : Type := List Nat
def q_v (S : Nat → Prop) : Nat → Value → Prop
  | 0, _ => True
  | 1, v => ∃ p, v = .ref p ∧ ¬ S p
  | p + 2, v => v = .ref p
def q_m (S : Nat → Prop) (A : q_A) (l : List Value) : Prop := ∀ (i a : Nat), A[i]? = some (a + 1) → ∃ v, l[i]? = some v ∧ q_v S (a + 1) v
section
variable {S : Nat → Prop} {A B : q_A} {l l' : List Value} {a : Nat} {v : Value}
theorem q_nil : q_m S [] l := fun i a h => by simp at h
theorem q_cons (h : q_v S a v) (hl : q_m S A l) : q_m S (a :: A) (v :: l) := by
  intro i b hb
  cases i with
  | zero =>
    simp at hb
    subst hb
    exact ⟨v, by simp, h⟩
  | succ i =>
    simp at hb
    obtain ⟨w, h1, h2⟩ := hl i b hb
    exact ⟨w, by simpa using h1, h2⟩
theorem q_0 (hl : q_m S A l) : q_m S (0 :: A) (v :: l) := q_cons (show q_v S 0 v from trivial) hl
theorem q_drop (n : Nat) (h : q_m S A l) : q_m S (A.drop n) (l.drop n) := by
  intro i b hb
  rw [List.getElem?_drop] at hb ⊢
  exact h _ b hb
theorem q_take (n : Nat) (h : q_m S A l) : q_m S (A.take n) (l.take n) := by
  intro i b hb
  rw [List.getElem?_take] at hb ⊢
  split at hb
  · rename_i hi
    rw [if_pos hi]
    exact h _ b hb
  · cases hb
theorem q_tl (h : q_m S A (v :: l)) : q_m S (A.drop 1) l := q_drop 1 h
theorem q_tl2 {w : Value} (h : q_m S A (v :: w :: l)) : q_m S (A.drop 2) l := q_drop 2 h
theorem q_tl3 {w u : Value} (h : q_m S A (v :: w :: u :: l)) : q_m S (A.drop 3) l := q_drop 3 h
theorem q_get (h : q_m S A l) {i : Nat} (hv : l[i]? = some v) : q_v S ((A[i]?).getD 0) v := by
  cases hA : A[i]? with
  | none => trivial
  | some b =>
    cases b with
    | zero => trivial
    | succ b =>
      obtain ⟨w, h1, h2⟩ := h i b hA
      rw [hv] at h1
      injection h1 with h1
      subst h1
      exact h2
theorem q_hd (h : q_m S A (v :: l)) : q_v S (A[0]?.getD 0) v := q_get h (by simp)
theorem q_hd1 {w : Value} (h : q_m S A (v :: w :: l)) : q_v S (A[1]?.getD 0) w := q_get h (by simp)
theorem q_hd2 {w u : Value} (h : q_m S A (v :: w :: u :: l)) : q_v S (A[2]?.getD 0) u := q_get h (by simp)
def q_cut (n : Nat) (A : q_A) : q_A := bif Nat.ble 200 n then A else A.take n
theorem q_cut_s {n : Nat} (h : q_m S A l) : q_m S (q_cut n A) (ez_cut n l) := by
  unfold q_cut ez_cut
  cases Nat.ble 200 n with
  | true => exact h
  | false => exact q_take n h
def q_put : q_A → Nat → Nat → q_A
  | [], 0, v => [v]
  | [], n + 1, v => 0 :: q_put [] n v
  | _ :: t, 0, v => v :: t
  | a :: t, n + 1, v => a :: q_put t n v
theorem q_put_s (hv : q_v S a v) : ∀ (n : Nat) {A : q_A} {l : List Value}, q_m S A l → q_m S (q_put A n a) (ez_put l n v) := by
  intro n
  induction n with
  | zero =>
    intro A l h
    cases A with
    | nil => cases l with
      | nil => exact q_cons hv q_nil
      | cons w t => exact q_cons hv q_nil
    | cons b s => cases l with
      | nil =>
        refine q_cons hv fun i c hc => ?_
        obtain ⟨w, h1, -⟩ := h (i + 1) c (by simpa using hc)
        simp at h1
      | cons w t => exact q_cons hv (q_tl h)
  | succ n ih =>
    intro A l h
    cases A with
    | nil => cases l with
      | nil => exact q_0 (ih (A := []) (l := []) q_nil)
      | cons w t => exact q_0 (ih (A := []) q_nil)
    | cons b s => cases l with
      | nil =>
        have h2 : q_m S s [] := fun i c hc => by
          obtain ⟨w, h1, -⟩ := h (i + 1) c (by simpa using hc)
          simp at h1
        cases b with
        | zero => exact q_0 (ih h2)
        | succ b =>
          obtain ⟨w, h1, -⟩ := h 0 b (by simp)
          simp at h1
      | cons w t => exact q_cons (q_hd h) (ih (q_tl h))
theorem ez_put_fw : ∀ (l : List Value) (i : Nat) (v : Value) (j : Nat) (w : Value), l[j]? = some w → j ≠ i → (ez_put l i v)[j]? = some w := by
  intro l
  induction l with
  | nil => intro i v j w h; simp at h
  | cons a t ih =>
    intro i v j w h hj
    cases i with
    | zero =>
      cases j with
      | zero => exact absurd rfl hj
      | succ j => simpa [ez_put] using h
    | succ i =>
      cases j with
      | zero => simpa [ez_put] using h
      | succ j =>
        simp at h
        simpa [ez_put] using ih i v j w h (by omega)
theorem q_clr {n : Nat} (h : q_m S A l) : q_m S A (ez_clr l n) := by
  cases n with
  | zero => exact h
  | succ n =>
    simp only [ez_clr]
    split
    · rename_i w hw
      cases hb : ez_isL w with
      | false => exact h
      | true =>
        simp only [cond_true]
        intro i b hb2
        obtain ⟨u, h1, h2⟩ := h i b hb2
        refine ⟨u, ez_put_fw l n ez_fill i u h1 fun e => ?_, h2⟩
        subst e
        rw [hw] at h1
        injection h1 with h1
        subst h1
        have : ∃ p, w = .ref p := by
          cases b with
          | zero => obtain ⟨p, hp, -⟩ := h2; exact ⟨p, hp⟩
          | succ b => exact ⟨b, h2⟩
        obtain ⟨p, rfl⟩ := this
        cases hb
    · exact h
theorem q_st1 {n : Nat} (hv : q_v S a v) (h : q_m S A l) : q_m S (q_put A n a) (ez_st1 l n v) := q_put_s hv n (q_clr h)
theorem q_st2 {n : Nat} (h : q_m S A l) : q_m S (q_put (q_put A n 0) (n + 1) 0) (ez_st2 l n v) := q_put_s (show q_v S 0 ez_fill from trivial) (n + 1) (q_put_s (show q_v S 0 v from trivial) n (q_clr h))
end
/-- kept cells are as they were; what fields of objects are known to hold -/
def q_W (S : Nat → Prop) (FT : List (Nat × Nat × Nat)) (h0 h : ez_H) : Prop := (∀ p, S p → p < h.length ∧ h[p]? = h0[p]?) ∧ ∀ e ∈ FT, ∃ c fs v, h[e.1]? = some (.inr (c, fs)) ∧ fs[e.2.1]? = some v ∧ q_v S e.2.2 v
section
variable {S : Nat → Prop} {FT : List (Nat × Nat × Nat)} {h0 h : ez_H} {p : Nat}
theorem q_lt {x : ez_C} (hp : h[p]? = some x) : p < h.length := (List.getElem?_eq_some_iff.mp hp).1
theorem q_arr {x x' : vp_A} (hw : q_W S FT h0 h) (hs : ¬ S p) (hp : h[p]? = some (.inl x)) : q_W S FT h0 (h.set p (.inl x')) := by
  refine ⟨fun q hq => ?_, fun e he => ?_⟩
  · have hne : p ≠ q := fun e => hs (by rw [e]; exact hq)
    rw [List.length_set, List.getElem?_set_ne hne]
    exact hw.1 q hq
  · obtain ⟨c, fs, v, h1, h2, h3⟩ := hw.2 e he
    refine ⟨c, fs, v, ?_, h2, h3⟩
    rw [List.getElem?_set_ne (fun z => by rw [← z, hp] at h1; injection h1 with h1; cases h1)]
    exact h1
theorem q_obj {c k : Nat} {fs : List Value} {w : Value} (hw : q_W S FT h0 h) (hs : ¬ S p) (hp : h[p]? = some (.inr (c, fs))) (hk : k < fs.length) (hv : ∀ e ∈ FT, e.1 = p → e.2.1 = k → q_v S e.2.2 w) : q_W S FT h0 (h.set p (.inr (c, fs.set k w))) := by
  refine ⟨fun q hq => ?_, fun e he => ?_⟩
  · have hne : p ≠ q := fun e => hs (by rw [e]; exact hq)
    rw [List.length_set, List.getElem?_set_ne hne]
    exact hw.1 q hq
  · obtain ⟨c2, fs2, v, h1, h2, h3⟩ := hw.2 e he
    by_cases hpe : p = e.1
    · rw [← hpe, hp] at h1
      injection h1 with h1
      injection h1 with h1
      injection h1 with hc hf
      subst hc hf
      by_cases hke : k = e.2.1
      · exact ⟨c, fs.set k w, w, by rw [← hpe, List.getElem?_set_self (q_lt hp)], by rw [← hke, List.getElem?_set_self hk], hv e he hpe.symm hke.symm⟩
      · exact ⟨c, fs.set k w, v, by rw [← hpe, List.getElem?_set_self (q_lt hp)], by rw [List.getElem?_set_ne hke]; exact h2, h3⟩
    · exact ⟨c2, fs2, v, by rw [List.getElem?_set_ne hpe]; exact h1, h2, h3⟩
theorem q_app {x : ez_C} (hw : q_W S FT h0 h) : q_W S FT h0 (h ++ [x]) := by
  refine ⟨fun q hq => ?_, fun e he => ?_⟩
  · obtain ⟨h1, h2⟩ := hw.1 q hq
    rw [List.length_append, List.getElem?_append_left h1]
    exact ⟨by omega, h2⟩
  · obtain ⟨c, fs, v, h1, h2, h3⟩ := hw.2 e he
    exact ⟨c, fs, v, by rw [List.getElem?_append_left (q_lt h1)]; exact h1, h2, h3⟩
theorem q_out (hw : q_W S FT h0 h) : ¬ S h.length := fun z => Nat.lt_irrefl _ (hw.1 _ z).1
end
def q_ft (FT : List (Nat × Nat × Nat)) (p k : Nat) : Nat := match FT.find? (fun e => Nat.beq e.1 p && Nat.beq e.2.1 k) with
  | some e => e.2.2
  | none => 0
def q_ok (sOK : Nat → Bool) : Nat → Bool
  | 0 => false
  | 1 => true
  | p + 2 => sOK p
/-- the instructions that neither make, call, jump nor end -/
def q_b (sOK : Nat → Bool) (FT : List (Nat × Nat × Nat)) (i : Instr) (b : Nat) (A B : q_A) : Option (q_A × q_A) := match i with
  | .aload_n k => some (A, (A[k.val]?).getD 0 :: B)
  | .aload k => some (A, (A[k]?).getD 0 :: B)
  | .iload_n _ => some (A, 0 :: B)
  | .iload _ => some (A, 0 :: B)
  | .lload_n _ => some (A, 0 :: B)
  | .lload _ => some (A, 0 :: B)
  | .istore_n k => some (q_put A k.val 0, B.drop 1)
  | .istore k => some (q_put A k 0, B.drop 1)
  | .lstore_n k => some (q_put (q_put A k.val 0) (k.val + 1) 0, B.drop 1)
  | .lstore k => some (q_put (q_put A k 0) (k + 1) 0, B.drop 1)
  | .astore_n k => some (q_put A k.val ((B[0]?).getD 0), B.drop 1)
  | .astore k => some (q_put A k ((B[0]?).getD 0), B.drop 1)
  | .iinc k _ => some (q_put A k 0, B)
  | .iconst _ => some (A, 0 :: B)
  | .lconst _ => some (A, 0 :: B)
  | .bipush _ => some (A, 0 :: B)
  | .sipush _ => some (A, 0 :: B)
  | .ldc _ => some (A, 0 :: B)
  | .ldc_w _ => some (A, 0 :: B)
  | .ldc2_w _ => some (A, 0 :: B)
  | .iadd => some (A, 0 :: B.drop 2)
  | .isub => some (A, 0 :: B.drop 2)
  | .imul => some (A, 0 :: B.drop 2)
  | .idiv => some (A, 0 :: B.drop 2)
  | .irem => some (A, 0 :: B.drop 2)
  | .iand => some (A, 0 :: B.drop 2)
  | .ior => some (A, 0 :: B.drop 2)
  | .ixor => some (A, 0 :: B.drop 2)
  | .ishl => some (A, 0 :: B.drop 2)
  | .ishr => some (A, 0 :: B.drop 2)
  | .iushr => some (A, 0 :: B.drop 2)
  | .ladd => some (A, 0 :: B.drop 2)
  | .lsub => some (A, 0 :: B.drop 2)
  | .lmul => some (A, 0 :: B.drop 2)
  | .land => some (A, 0 :: B.drop 2)
  | .lor => some (A, 0 :: B.drop 2)
  | .lxor => some (A, 0 :: B.drop 2)
  | .lshl => some (A, 0 :: B.drop 2)
  | .lshr => some (A, 0 :: B.drop 2)
  | .lushr => some (A, 0 :: B.drop 2)
  | .lcmp => some (A, 0 :: B.drop 2)
  | .i2l => some (A, 0 :: B.drop 1)
  | .l2i => some (A, 0 :: B.drop 1)
  | .dup => some (A, (B[0]?).getD 0 :: (B[0]?).getD 0 :: B.drop 1)
  | .dup2 => some (A, (B[0]?).getD 0 :: (B[1]?).getD 0 :: (B[0]?).getD 0 :: (B[1]?).getD 0 :: B.drop 2)
  | .pop => some (A, B.drop 1)
  | .pop2 => some (A, B.drop 1)
  | .iaload => some (A, 0 :: B.drop 2)
  | .laload => some (A, 0 :: B.drop 2)
  | .iastore => bif q_ok sOK ((B[2]?).getD 0) then some (A, B.drop 3) else none
  | .lastore => bif q_ok sOK ((B[2]?).getD 0) then some (A, B.drop 3) else none
  | .arraylength => some (A, 0 :: B.drop 1)
  | .getfield _ => some (A, (match (B[0]?).getD 0 with
    | p + 2 => q_ft FT p b
    | _ => 0) :: B.drop 1)
  | .putfield _ => (match (B[1]?).getD 0 with
    | p + 2 => bif sOK p && FT.all (fun e => !(Nat.beq e.1 p && Nat.beq e.2.1 b) || Nat.beq e.2.2 ((B[0]?).getD 0)) then some (A, B.drop 2) else none
    | _ => none)
  | _ => none
section
variable {S : Nat → Prop} {sOK : Nat → Bool} {FT : List (Nat × Nat × Nat)} {h0 h h' : ez_H} {A B A' B' : q_A} {ls st ls' st' : List Value} {a b : Nat} {X : ez_X} {i : Instr}
theorem q_ok_s (hS : ∀ p, sOK p = true → ¬ S p) {x : Nat} {v : Value} (h : q_ok sOK x = true) (hv : q_v S x v) : ∃ p, v = .ref p ∧ ¬ S p := by
  match x with
  | 0 => cases h
  | 1 => exact hv
  | p + 2 => exact ⟨p, hv, hS p h⟩
theorem q_ft_s {p k : Nat} (hw : q_W S FT h0 h) {c : Nat} {fs : List Value} {v : Value} (hp : h[p]? = some (.inr (c, fs))) (hk : fs[k]? = some v) : q_v S (q_ft FT p k) v := by
  unfold q_ft
  split
  · rename_i e he
    have h1 := List.mem_of_find?_eq_some he
    have h2 := List.find?_some he
    obtain ⟨h3, h4⟩ := Bool.and_eq_true_iff.mp h2
    obtain ⟨c2, fs2, v2, g1, g2, g3⟩ := hw.2 e h1
    rw [Nat.eq_of_beq_eq_true h3, hp] at g1
    injection g1 with g1
    injection g1 with g1
    injection g1 with g1 g4
    subst g4
    rw [Nat.eq_of_beq_eq_true h4, hk] at g2
    injection g2 with g2
    subst g2
    exact g3
  · trivial
theorem q_map3 {f : Option (List Value)} (e : (f.map fun t => (ls, t, h)) = some (ls', st', h')) : f = some st' ∧ ls' = ls ∧ h' = h := by
  obtain ⟨t, h1, h2⟩ := Option.map_eq_some_iff.mp e
  injection h2 with h2 h3
  injection h3 with h3 h4
  subst h2 h3 h4
  exact ⟨h1, rfl, rfl⟩
theorem q_mapH {f : Option (List Value × ez_H)} (e : (f.map fun t => (ls, t.1, t.2)) = some (ls', st', h')) : f = some (st', h') ∧ ls' = ls := by
  obtain ⟨⟨t1, t2⟩, h1, h2⟩ := Option.map_eq_some_iff.mp e
  injection h2 with h2 h3
  injection h3 with h3 h4
  simp only at h3 h4
  subst h2 h3 h4
  exact ⟨h1, rfl⟩
theorem q_ldA {i : Nat} {t : List Value} (h : ez_ldA ls i st = some t) : ∃ v, ls[i]? = some v ∧ t = v :: st := by
  unfold ez_ldA at h
  split at h
  · rename_i v hv
    injection h with h
    exact ⟨_, hv, h.symm⟩
  · rename_i n hn
    cases hb : (n == 1) with
    | true =>
      rw [hb] at h
      simp only [cond_true] at h
      injection h with h
      have : n = 1 := by simpa using hb
      subst this
      exact ⟨_, hn, h.symm⟩
    | false => rw [hb] at h; cases h
  · cases h
theorem q_iald {t : List Value} (e : ez_iald X h st = some t) : ∃ i v w r, st = i :: v :: r ∧ t = .int w :: r := by
  unfold ez_iald at e
  split at e
  · split at e
    · obtain ⟨-, e⟩ := ev_in_inv e
      exact ⟨_, _, _, _, rfl, e.symm⟩
    · cases e
  · rename_i n r
    cases hb : (n == 1) with
    | true =>
      rw [hb] at e
      simp only [cond_true] at e
      obtain ⟨-, e⟩ := ev_in_inv e
      exact ⟨_, _, _, _, rfl, e.symm⟩
    | false => rw [hb] at e; cases e
  · cases e
theorem q_lald {t : List Value} (e : ez_lald h st = some t) : ∃ i v w r, st = i :: v :: r ∧ t = .long w :: r := by
  unfold ez_lald at e
  split at e
  · split at e
    · obtain ⟨-, e⟩ := ev_in_inv e
      exact ⟨_, _, _, _, rfl, e.symm⟩
    · cases e
  · cases e
theorem q_iast {t : List Value} (e : ez_iast h st = some (t, h')) : ∃ x i p y y', st = x :: i :: .ref p :: t ∧ h[p]? = some (.inl y) ∧ h' = h.set p (.inl y') := by
  unfold ez_iast at e
  split at e
  · split at e
    · rename_i hp
      obtain ⟨-, e⟩ := ev_in_inv e
      injection e with e1 e2
      subst e1
      exact ⟨_, _, _, _, _, rfl, hp, e2.symm⟩
    · cases e
  · cases e
theorem q_last {t : List Value} (e : ez_last h st = some (t, h')) : ∃ x i p y y', st = x :: i :: .ref p :: t ∧ h[p]? = some (.inl y) ∧ h' = h.set p (.inl y') := by
  unfold ez_last at e
  split at e
  · split at e
    · rename_i hp
      obtain ⟨-, e⟩ := ev_in_inv e
      injection e with e1 e2
      subst e1
      exact ⟨_, _, _, _, _, rfl, hp, e2.symm⟩
    · cases e
  · cases e
theorem q_alen {t : List Value} (e : ez_alen X h st = some t) : ∃ v w r, st = v :: r ∧ t = .int w :: r := by
  unfold ez_alen at e
  split at e
  · split at e
    · injection e with e
      exact ⟨_, _, _, rfl, e.symm⟩
    · injection e with e
      exact ⟨_, _, _, rfl, e.symm⟩
    · cases e
  · rename_i n r
    cases hb : (n == 1) with
    | true =>
      rw [hb] at e
      simp only [cond_true] at e
      injection e with e
      exact ⟨_, _, _, rfl, e.symm⟩
    | false => rw [hb] at e; cases e
  · cases e
theorem q_getf {ci k : Nat} {t : List Value} (e : ez_get ci k h st = some t) : ∃ p c fs v r, st = .ref p :: r ∧ h[p]? = some (.inr (c, fs)) ∧ fs[k]? = some v ∧ t = v :: r := by
  unfold ez_get at e
  split at e
  · split at e
    · rename_i hp
      obtain ⟨-, e⟩ := ez_bif e
      split at e
      · rename_i hv
        injection e with e
        exact ⟨_, _, _, _, _, rfl, hp, hv, e.symm⟩
      · cases e
    · cases e
  · cases e
theorem q_setf {ty : FieldType} {ci k : Nat} {t : List Value} (e : ez_set ty ci k h st = some (t, h')) : ∃ w p c fs, st = w :: .ref p :: t ∧ h[p]? = some (.inr (c, fs)) ∧ k < fs.length ∧ h' = h.set p (.inr (c, fs.set k w)) := by
  unfold ez_set at e
  split at e
  · split at e
    · rename_i hp
      obtain ⟨hb, e⟩ := ez_bif e
      injection e with e
      injection e with e1 e2
      subst e1
      simp only [Bool.and_eq_true] at hb
      exact ⟨_, _, _, _, rfl, hp, Nat.le_of_ble_eq_true hb.2, e2.symm⟩
    · cases e
  · cases e
theorem q_b_s {ty : Nat → Nat → FieldType} (hS : ∀ p, sOK p = true → ¬ S p) (hw : q_W S FT h0 h) (hA : q_m S A ls) (hB : q_m S B st) (hq : q_b sOK FT i b A B = some (A', B')) (he : ez_b X ty i a b ls st h = some (ls', st', h')) : q_m S A' ls' ∧ q_m S B' st' ∧ q_W S FT h0 h' := by
  cases i with
  | aload_n k =>
    have he : (ez_ldA ls k.val st).map (fun t => (ls, t, h)) = some (ls', st', h') := he
    obtain ⟨e1, rfl, rfl⟩ := q_map3 he
    obtain ⟨v, e2, rfl⟩ := q_ldA e1
    injection hq with hq
    injection hq with hq1 hq2
    subst hq1 hq2
    exact ⟨hA, q_cons (q_get hA e2) hB, hw⟩
  | aload k =>
    have he : (ez_ldA ls k st).map (fun t => (ls, t, h)) = some (ls', st', h') := he
    obtain ⟨e1, rfl, rfl⟩ := q_map3 he
    obtain ⟨v, e2, rfl⟩ := q_ldA e1
    injection hq with hq
    injection hq with hq1 hq2
    subst hq1 hq2
    exact ⟨hA, q_cons (q_get hA e2) hB, hw⟩
  | iload_n k =>
    have he : (ez_ldI ls k.val st).map (fun t => (ls, t, h)) = some (ls', st', h') := he
    obtain ⟨e1, rfl, rfl⟩ := q_map3 he
    obtain ⟨v, e2, rfl⟩ := ez_ldI_s e1
    injection hq with hq
    injection hq with hq1 hq2
    subst hq1 hq2
    exact ⟨hA, q_0 hB, hw⟩
  | iload k =>
    have he : (ez_ldI ls k st).map (fun t => (ls, t, h)) = some (ls', st', h') := he
    obtain ⟨e1, rfl, rfl⟩ := q_map3 he
    obtain ⟨v, e2, rfl⟩ := ez_ldI_s e1
    injection hq with hq
    injection hq with hq1 hq2
    subst hq1 hq2
    exact ⟨hA, q_0 hB, hw⟩
  | lload_n k =>
    have he : (ez_ldL ls k.val st).map (fun t => (ls, t, h)) = some (ls', st', h') := he
    obtain ⟨e1, rfl, rfl⟩ := q_map3 he
    obtain ⟨v, e2, rfl⟩ := ez_ldL_s e1
    injection hq with hq
    injection hq with hq1 hq2
    subst hq1 hq2
    exact ⟨hA, q_0 hB, hw⟩
  | lload k =>
    have he : (ez_ldL ls k st).map (fun t => (ls, t, h)) = some (ls', st', h') := he
    obtain ⟨e1, rfl, rfl⟩ := q_map3 he
    obtain ⟨v, e2, rfl⟩ := ez_ldL_s e1
    injection hq with hq
    injection hq with hq1 hq2
    subst hq1 hq2
    exact ⟨hA, q_0 hB, hw⟩
  | istore_n k =>
    have he : (match (generalizing := false) st with
      | .int v :: r => some (ez_st1 ls k.val (.int v), r, h)
      | _ => none) = some (ls', st', h') := he
    split at he
    · injection he with he
      injection he with e1 he
      injection he with e2 e3
      subst e1 e2 e3
      injection hq with hq
      injection hq with hq1 hq2
      subst hq1 hq2
      exact ⟨q_st1 (a := 0) trivial hA, q_tl hB, hw⟩
    · cases he
  | istore k =>
    have he : (match (generalizing := false) st with
      | .int v :: r => some (ez_st1 ls k (.int v), r, h)
      | _ => none) = some (ls', st', h') := he
    split at he
    · injection he with he
      injection he with e1 he
      injection he with e2 e3
      subst e1 e2 e3
      injection hq with hq
      injection hq with hq1 hq2
      subst hq1 hq2
      exact ⟨q_st1 (a := 0) trivial hA, q_tl hB, hw⟩
    · cases he
  | lstore_n k =>
    have he : (match (generalizing := false) st with
      | .long v :: r => some (ez_st2 ls k.val (.long v), r, h)
      | _ => none) = some (ls', st', h') := he
    split at he
    · injection he with he
      injection he with e1 he
      injection he with e2 e3
      subst e1 e2 e3
      injection hq with hq
      injection hq with hq1 hq2
      subst hq1 hq2
      exact ⟨q_st2 hA, q_tl hB, hw⟩
    · cases he
  | lstore k =>
    have he : (match (generalizing := false) st with
      | .long v :: r => some (ez_st2 ls k (.long v), r, h)
      | _ => none) = some (ls', st', h') := he
    split at he
    · injection he with he
      injection he with e1 he
      injection he with e2 e3
      subst e1 e2 e3
      injection hq with hq
      injection hq with hq1 hq2
      subst hq1 hq2
      exact ⟨q_st2 hA, q_tl hB, hw⟩
    · cases he
  | astore_n k =>
    have he : (match (generalizing := false) st with
      | .ref v :: r => some (ez_st1 ls k.val (.ref v), r, h)
      | _ => none) = some (ls', st', h') := he
    split at he
    · injection he with he
      injection he with e1 he
      injection he with e2 e3
      subst e1 e2 e3
      injection hq with hq
      injection hq with hq1 hq2
      subst hq1 hq2
      exact ⟨q_st1 (q_hd hB) hA, q_tl hB, hw⟩
    · cases he
  | astore k =>
    have he : (match (generalizing := false) st with
      | .ref v :: r => some (ez_st1 ls k (.ref v), r, h)
      | _ => none) = some (ls', st', h') := he
    split at he
    · injection he with he
      injection he with e1 he
      injection he with e2 e3
      subst e1 e2 e3
      injection hq with hq
      injection hq with hq1 hq2
      subst hq1 hq2
      exact ⟨q_st1 (q_hd hB) hA, q_tl hB, hw⟩
    · cases he
  | iinc k n =>
    have he : (match (generalizing := false) ls[k]? with
      | some (.int v) => some (ez_st1 ls k (.int (v + Int32.ofInt n)), st, h)
      | _ => none) = some (ls', st', h') := he
    split at he
    · injection he with he
      injection he with e1 he
      injection he with e2 e3
      subst e1 e2 e3
      injection hq with hq
      injection hq with hq1 hq2
      subst hq1 hq2
      exact ⟨q_st1 (a := 0) trivial hA, hB, hw⟩
    · cases he
  | iconst n =>
    have he : some (ls, Value.int (Int32.ofInt n) :: st, h) = some (ls', st', h') := he
    injection he with he
    injection he with e1 he
    injection he with e2 e3
    subst e1 e2 e3
    injection hq with hq
    injection hq with hq1 hq2
    subst hq1 hq2
    exact ⟨hA, q_0 hB, hw⟩
  | lconst n =>
    have he : some (ls, Value.long (Int64.ofNat n.val) :: st, h) = some (ls', st', h') := he
    injection he with he
    injection he with e1 he
    injection he with e2 e3
    subst e1 e2 e3
    injection hq with hq
    injection hq with hq1 hq2
    subst hq1 hq2
    exact ⟨hA, q_0 hB, hw⟩
  | bipush n =>
    have he : some (ls, Value.int (Int8.ofInt n).toInt32 :: st, h) = some (ls', st', h') := he
    injection he with he
    injection he with e1 he
    injection he with e2 e3
    subst e1 e2 e3
    injection hq with hq
    injection hq with hq1 hq2
    subst hq1 hq2
    exact ⟨hA, q_0 hB, hw⟩
  | sipush n =>
    have he : some (ls, Value.int (Int16.ofInt n).toInt32 :: st, h) = some (ls', st', h') := he
    injection he with he
    injection he with e1 he
    injection he with e2 e3
    subst e1 e2 e3
    injection hq with hq
    injection hq with hq1 hq2
    subst hq1 hq2
    exact ⟨hA, q_0 hB, hw⟩
  | ldc _ =>
    have he : some (ls, Value.int (Int32.ofNat b) :: st, h) = some (ls', st', h') := he
    injection he with he
    injection he with e1 he
    injection he with e2 e3
    subst e1 e2 e3
    injection hq with hq
    injection hq with hq1 hq2
    subst hq1 hq2
    exact ⟨hA, q_0 hB, hw⟩
  | ldc_w _ =>
    have he : some (ls, Value.int (Int32.ofNat b) :: st, h) = some (ls', st', h') := he
    injection he with he
    injection he with e1 he
    injection he with e2 e3
    subst e1 e2 e3
    injection hq with hq
    injection hq with hq1 hq2
    subst hq1 hq2
    exact ⟨hA, q_0 hB, hw⟩
  | ldc2_w _ =>
    have he : some (ls, Value.long (Int64.ofNat b) :: st, h) = some (ls', st', h') := he
    injection he with he
    injection he with e1 he
    injection he with e2 e3
    subst e1 e2 e3
    injection hq with hq
    injection hq with hq1 hq2
    subst hq1 hq2
    exact ⟨hA, q_0 hB, hw⟩
  | iadd =>
    have he : (ez_bin (fun x y => x + y) st).map (fun t => (ls, t, h)) = some (ls', st', h') := he
    obtain ⟨e1, rfl, rfl⟩ := q_map3 he
    obtain ⟨x, y, r, rfl, rfl⟩ := ez_bin_s e1
    injection hq with hq
    injection hq with hq1 hq2
    subst hq1 hq2
    exact ⟨hA, q_0 (q_tl2 hB), hw⟩
  | isub =>
    have he : (ez_bin (fun x y => x - y) st).map (fun t => (ls, t, h)) = some (ls', st', h') := he
    obtain ⟨e1, rfl, rfl⟩ := q_map3 he
    obtain ⟨x, y, r, rfl, rfl⟩ := ez_bin_s e1
    injection hq with hq
    injection hq with hq1 hq2
    subst hq1 hq2
    exact ⟨hA, q_0 (q_tl2 hB), hw⟩
  | imul =>
    have he : (ez_bin (fun x y => x * y) st).map (fun t => (ls, t, h)) = some (ls', st', h') := he
    obtain ⟨e1, rfl, rfl⟩ := q_map3 he
    obtain ⟨x, y, r, rfl, rfl⟩ := ez_bin_s e1
    injection hq with hq
    injection hq with hq1 hq2
    subst hq1 hq2
    exact ⟨hA, q_0 (q_tl2 hB), hw⟩
  | idiv =>
    have he : (ez_binD (fun x y => x / y) st).map (fun t => (ls, t, h)) = some (ls', st', h') := he
    obtain ⟨e1, rfl, rfl⟩ := q_map3 he
    obtain ⟨x, y, r, rfl, rfl, -⟩ := ez_binD_s e1
    injection hq with hq
    injection hq with hq1 hq2
    subst hq1 hq2
    exact ⟨hA, q_0 (q_tl2 hB), hw⟩
  | irem =>
    have he : (ez_binD (fun x y => x - x / y * y) st).map (fun t => (ls, t, h)) = some (ls', st', h') := he
    obtain ⟨e1, rfl, rfl⟩ := q_map3 he
    obtain ⟨x, y, r, rfl, rfl, -⟩ := ez_binD_s e1
    injection hq with hq
    injection hq with hq1 hq2
    subst hq1 hq2
    exact ⟨hA, q_0 (q_tl2 hB), hw⟩
  | iand =>
    have he : (ez_bin (fun x y => x &&& y) st).map (fun t => (ls, t, h)) = some (ls', st', h') := he
    obtain ⟨e1, rfl, rfl⟩ := q_map3 he
    obtain ⟨x, y, r, rfl, rfl⟩ := ez_bin_s e1
    injection hq with hq
    injection hq with hq1 hq2
    subst hq1 hq2
    exact ⟨hA, q_0 (q_tl2 hB), hw⟩
  | ior =>
    have he : (ez_bin (fun x y => x ||| y) st).map (fun t => (ls, t, h)) = some (ls', st', h') := he
    obtain ⟨e1, rfl, rfl⟩ := q_map3 he
    obtain ⟨x, y, r, rfl, rfl⟩ := ez_bin_s e1
    injection hq with hq
    injection hq with hq1 hq2
    subst hq1 hq2
    exact ⟨hA, q_0 (q_tl2 hB), hw⟩
  | ixor =>
    have he : (ez_bin (fun x y => x ^^^ y) st).map (fun t => (ls, t, h)) = some (ls', st', h') := he
    obtain ⟨e1, rfl, rfl⟩ := q_map3 he
    obtain ⟨x, y, r, rfl, rfl⟩ := ez_bin_s e1
    injection hq with hq
    injection hq with hq1 hq2
    subst hq1 hq2
    exact ⟨hA, q_0 (q_tl2 hB), hw⟩
  | ishl =>
    have he : (ez_bin (fun x y => x <<< (y &&& 31)) st).map (fun t => (ls, t, h)) = some (ls', st', h') := he
    obtain ⟨e1, rfl, rfl⟩ := q_map3 he
    obtain ⟨x, y, r, rfl, rfl⟩ := ez_bin_s e1
    injection hq with hq
    injection hq with hq1 hq2
    subst hq1 hq2
    exact ⟨hA, q_0 (q_tl2 hB), hw⟩
  | ishr =>
    have he : (ez_bin (fun x y => x >>> (y &&& 31)) st).map (fun t => (ls, t, h)) = some (ls', st', h') := he
    obtain ⟨e1, rfl, rfl⟩ := q_map3 he
    obtain ⟨x, y, r, rfl, rfl⟩ := ez_bin_s e1
    injection hq with hq
    injection hq with hq1 hq2
    subst hq1 hq2
    exact ⟨hA, q_0 (q_tl2 hB), hw⟩
  | iushr =>
    have he : (ez_bin (fun x y => (x.toUInt32 >>> (y.toUInt32 &&& Int32.toUInt32 31)).toInt32) st).map (fun t => (ls, t, h)) = some (ls', st', h') := he
    obtain ⟨e1, rfl, rfl⟩ := q_map3 he
    obtain ⟨x, y, r, rfl, rfl⟩ := ez_bin_s e1
    injection hq with hq
    injection hq with hq1 hq2
    subst hq1 hq2
    exact ⟨hA, q_0 (q_tl2 hB), hw⟩
  | ladd =>
    have he : (ez_binL (fun x y => x + y) st).map (fun t => (ls, t, h)) = some (ls', st', h') := he
    obtain ⟨e1, rfl, rfl⟩ := q_map3 he
    obtain ⟨x, y, r, rfl, rfl⟩ := ez_binL_s e1
    injection hq with hq
    injection hq with hq1 hq2
    subst hq1 hq2
    exact ⟨hA, q_0 (q_tl2 hB), hw⟩
  | lsub =>
    have he : (ez_binL (fun x y => x - y) st).map (fun t => (ls, t, h)) = some (ls', st', h') := he
    obtain ⟨e1, rfl, rfl⟩ := q_map3 he
    obtain ⟨x, y, r, rfl, rfl⟩ := ez_binL_s e1
    injection hq with hq
    injection hq with hq1 hq2
    subst hq1 hq2
    exact ⟨hA, q_0 (q_tl2 hB), hw⟩
  | lmul =>
    have he : (ez_binL (fun x y => x * y) st).map (fun t => (ls, t, h)) = some (ls', st', h') := he
    obtain ⟨e1, rfl, rfl⟩ := q_map3 he
    obtain ⟨x, y, r, rfl, rfl⟩ := ez_binL_s e1
    injection hq with hq
    injection hq with hq1 hq2
    subst hq1 hq2
    exact ⟨hA, q_0 (q_tl2 hB), hw⟩
  | land =>
    have he : (ez_binL (fun x y => x &&& y) st).map (fun t => (ls, t, h)) = some (ls', st', h') := he
    obtain ⟨e1, rfl, rfl⟩ := q_map3 he
    obtain ⟨x, y, r, rfl, rfl⟩ := ez_binL_s e1
    injection hq with hq
    injection hq with hq1 hq2
    subst hq1 hq2
    exact ⟨hA, q_0 (q_tl2 hB), hw⟩
  | lor =>
    have he : (ez_binL (fun x y => x ||| y) st).map (fun t => (ls, t, h)) = some (ls', st', h') := he
    obtain ⟨e1, rfl, rfl⟩ := q_map3 he
    obtain ⟨x, y, r, rfl, rfl⟩ := ez_binL_s e1
    injection hq with hq
    injection hq with hq1 hq2
    subst hq1 hq2
    exact ⟨hA, q_0 (q_tl2 hB), hw⟩
  | lxor =>
    have he : (ez_binL (fun x y => x ^^^ y) st).map (fun t => (ls, t, h)) = some (ls', st', h') := he
    obtain ⟨e1, rfl, rfl⟩ := q_map3 he
    obtain ⟨x, y, r, rfl, rfl⟩ := ez_binL_s e1
    injection hq with hq
    injection hq with hq1 hq2
    subst hq1 hq2
    exact ⟨hA, q_0 (q_tl2 hB), hw⟩
  | lshl =>
    have he : (ez_sh (fun x y => x <<< (y.toInt64 &&& 63)) st).map (fun t => (ls, t, h)) = some (ls', st', h') := he
    obtain ⟨e1, rfl, rfl⟩ := q_map3 he
    obtain ⟨x, y, r, rfl, rfl⟩ := ez_sh_s e1
    injection hq with hq
    injection hq with hq1 hq2
    subst hq1 hq2
    exact ⟨hA, q_0 (q_tl2 hB), hw⟩
  | lshr =>
    have he : (ez_sh (fun x y => x >>> (y.toInt64 &&& 63)) st).map (fun t => (ls, t, h)) = some (ls', st', h') := he
    obtain ⟨e1, rfl, rfl⟩ := q_map3 he
    obtain ⟨x, y, r, rfl, rfl⟩ := ez_sh_s e1
    injection hq with hq
    injection hq with hq1 hq2
    subst hq1 hq2
    exact ⟨hA, q_0 (q_tl2 hB), hw⟩
  | lushr =>
    have he : (ez_sh (fun x y => (x.toUInt64 >>> (y.toInt64.toUInt64 &&& Int64.toUInt64 63)).toInt64) st).map (fun t => (ls, t, h)) = some (ls', st', h') := he
    obtain ⟨e1, rfl, rfl⟩ := q_map3 he
    obtain ⟨x, y, r, rfl, rfl⟩ := ez_sh_s e1
    injection hq with hq
    injection hq with hq1 hq2
    subst hq1 hq2
    exact ⟨hA, q_0 (q_tl2 hB), hw⟩
  | lcmp =>
    have he : (ez_lcmp st).map (fun t => (ls, t, h)) = some (ls', st', h') := he
    obtain ⟨e1, rfl, rfl⟩ := q_map3 he
    obtain ⟨x, y, r, rfl, rfl⟩ := ez_lcmp_s e1
    injection hq with hq
    injection hq with hq1 hq2
    subst hq1 hq2
    exact ⟨hA, q_0 (q_tl2 hB), hw⟩
  | i2l =>
    have he : (ez_i2l st).map (fun t => (ls, t, h)) = some (ls', st', h') := he
    obtain ⟨e1, rfl, rfl⟩ := q_map3 he
    obtain ⟨x, r, rfl, rfl⟩ := ez_i2l_s e1
    injection hq with hq
    injection hq with hq1 hq2
    subst hq1 hq2
    exact ⟨hA, q_0 (q_tl hB), hw⟩
  | l2i =>
    have he : (ez_l2i st).map (fun t => (ls, t, h)) = some (ls', st', h') := he
    obtain ⟨e1, rfl, rfl⟩ := q_map3 he
    obtain ⟨x, r, rfl, rfl⟩ := ez_l2i_s e1
    injection hq with hq
    injection hq with hq1 hq2
    subst hq1 hq2
    exact ⟨hA, q_0 (q_tl hB), hw⟩
  | dup =>
    have he : (ez_dup st).map (fun t => (ls, t, h)) = some (ls', st', h') := he
    obtain ⟨e1, rfl, rfl⟩ := q_map3 he
    obtain ⟨v, r, rfl, rfl, -⟩ := ez_dup_s e1
    injection hq with hq
    injection hq with hq1 hq2
    subst hq1 hq2
    exact ⟨hA, q_cons (q_hd hB) (q_cons (q_hd hB) (q_tl hB)), hw⟩
  | dup2 =>
    have he : (ez_dup2 st).map (fun t => (ls, t, h)) = some (ls', st', h') := he
    obtain ⟨e1, rfl, rfl⟩ := q_map3 he
    obtain ⟨v, w, r, rfl, rfl, -, -⟩ := ez_dup2_s e1
    injection hq with hq
    injection hq with hq1 hq2
    subst hq1 hq2
    exact ⟨hA, q_cons (q_hd hB) (q_cons (q_hd1 hB) (q_cons (q_hd hB) (q_cons (q_hd1 hB) (q_tl2 hB)))), hw⟩
  | pop =>
    have he : (ez_pop st).map (fun t => (ls, t, h)) = some (ls', st', h') := he
    obtain ⟨e1, rfl, rfl⟩ := q_map3 he
    obtain ⟨v, rfl, -⟩ := ez_pop_s e1
    injection hq with hq
    injection hq with hq1 hq2
    subst hq1 hq2
    exact ⟨hA, q_tl hB, hw⟩
  | pop2 =>
    have he : (ez_pop2 st).map (fun t => (ls, t, h)) = some (ls', st', h') := he
    obtain ⟨e1, rfl, rfl⟩ := q_map3 he
    obtain ⟨v, rfl, -⟩ := ez_pop2_s e1
    injection hq with hq
    injection hq with hq1 hq2
    subst hq1 hq2
    exact ⟨hA, q_tl hB, hw⟩
  | iaload =>
    have he : (ez_iald X h st).map (fun t => (ls, t, h)) = some (ls', st', h') := he
    obtain ⟨e1, rfl, rfl⟩ := q_map3 he
    obtain ⟨i, v, w, r, rfl, rfl⟩ := q_iald e1
    injection hq with hq
    injection hq with hq1 hq2
    subst hq1 hq2
    exact ⟨hA, q_0 (q_tl2 hB), hw⟩
  | laload =>
    have he : (ez_lald h st).map (fun t => (ls, t, h)) = some (ls', st', h') := he
    obtain ⟨e1, rfl, rfl⟩ := q_map3 he
    obtain ⟨i, v, w, r, rfl, rfl⟩ := q_lald e1
    injection hq with hq
    injection hq with hq1 hq2
    subst hq1 hq2
    exact ⟨hA, q_0 (q_tl2 hB), hw⟩
  | arraylength =>
    have he : (ez_alen X h st).map (fun t => (ls, t, h)) = some (ls', st', h') := he
    obtain ⟨e1, rfl, rfl⟩ := q_map3 he
    obtain ⟨v, w, r, rfl, rfl⟩ := q_alen e1
    injection hq with hq
    injection hq with hq1 hq2
    subst hq1 hq2
    exact ⟨hA, q_0 (q_tl hB), hw⟩
  | iastore =>
    have he : (ez_iast h st).map (fun t => (ls, t.1, t.2)) = some (ls', st', h') := he
    have hq : (bif q_ok sOK ((B[2]?).getD 0) then some (A, B.drop 3) else none) = some (A', B') := hq
    obtain ⟨e1, rfl⟩ := q_mapH he
    obtain ⟨x, i, p, y, y', rfl, hp, rfl⟩ := q_iast e1
    obtain ⟨hk, hq⟩ := ez_bif hq
    obtain ⟨p', e2, hs⟩ := q_ok_s hS hk (q_hd2 hB)
    injection e2 with e2
    subst e2
    injection hq with hq
    injection hq with hq1 hq2
    subst hq1 hq2
    exact ⟨hA, q_tl3 hB, q_arr hw hs hp⟩
  | lastore =>
    have he : (ez_last h st).map (fun t => (ls, t.1, t.2)) = some (ls', st', h') := he
    have hq : (bif q_ok sOK ((B[2]?).getD 0) then some (A, B.drop 3) else none) = some (A', B') := hq
    obtain ⟨e1, rfl⟩ := q_mapH he
    obtain ⟨x, i, p, y, y', rfl, hp, rfl⟩ := q_last e1
    obtain ⟨hk, hq⟩ := ez_bif hq
    obtain ⟨p', e2, hs⟩ := q_ok_s hS hk (q_hd2 hB)
    injection e2 with e2
    subst e2
    injection hq with hq
    injection hq with hq1 hq2
    subst hq1 hq2
    exact ⟨hA, q_tl3 hB, q_arr hw hs hp⟩
  | getfield _ =>
    have he : (ez_get a b h st).map (fun t => (ls, t, h)) = some (ls', st', h') := he
    obtain ⟨e1, rfl, rfl⟩ := q_map3 he
    obtain ⟨p, c, fs, v, r, rfl, hp, hv, rfl⟩ := q_getf e1
    injection hq with hq
    injection hq with hq1 hq2
    subst hq1 hq2
    refine ⟨hA, q_cons ?_ (q_tl hB), hw⟩
    have h1 := q_hd hB
    split
    · rename_i p' hp'
      rw [hp'] at h1
      injection h1 with h1
      subst h1
      exact q_ft_s hw hp hv
    · trivial
  | putfield _ =>
    have he : (ez_set (ty a b) a b h st).map (fun t => (ls, t.1, t.2)) = some (ls', st', h') := he
    have hq : (match (B[1]?).getD 0 with
      | p + 2 => bif sOK p && FT.all (fun e => !(Nat.beq e.1 p && Nat.beq e.2.1 b) || Nat.beq e.2.2 ((B[0]?).getD 0)) then some (A, B.drop 2) else none
      | _ => none) = some (A', B') := hq
    obtain ⟨e1, rfl⟩ := q_mapH he
    obtain ⟨w, p, c, fs, rfl, hp, hk, rfl⟩ := q_setf e1
    have h1 := q_hd1 hB
    split at hq
    · rename_i p' hp'
      rw [hp'] at h1
      injection h1 with h1
      subst h1
      obtain ⟨hb, hq⟩ := ez_bif hq
      obtain ⟨hb1, hb2⟩ := Bool.and_eq_true_iff.mp hb
      injection hq with hq
      injection hq with hq1 hq2
      subst hq1 hq2
      refine ⟨hA, q_tl2 hB, q_obj hw (hS p hb1) hp hk fun e he h2 h3 => ?_⟩
      have h4 := List.all_eq_true.mp hb2 e he
      rw [h2, h3] at h4
      simp only [Nat.beq_refl, Bool.and_self, Bool.not_true, Bool.false_or] at h4
      rw [Nat.eq_of_beq_eq_true h4]
      exact q_hd hB
    · cases hq
  | _ => cases hq
end
/-! The runner. -/
/-- a method, the references that it is called with (the first of its arguments), what it answers, told places -/
abbrev q_G : Type := Nat × q_A × Option Nat × List (Nat × q_A × q_A)
def q_le : q_A → q_A → Bool
  | [], _ => true
  | x :: s, y :: t => (Nat.beq x 0 || Nat.beq x y) && q_le s t
  | x :: s, [] => Nat.beq x 0 && q_le s []
def q_args (b : Nat) (B : q_A) : q_A := (List.range b).map fun j => (B[b - 1 - j]?).getD 0
def q_goes (G : List q_G) (nx : Nat → q_A → q_A → Bool) (pc a b : Nat) (A B : q_A) : Bool := G.any fun g => Nat.beq g.1 a && (q_le g.2.1 (q_args b B) && (g.2.1.all (fun x => !Nat.beq x 0) && (match g.2.2.1 with
  | none => nx (pc + 3) A (B.drop b)
  | some r => nx (pc + 3) A (r :: B.drop b))))
def q_one (sOK : Nat → Bool) (FT : List (Nat × Nat × Nat)) (G : List q_G) (rt : Option Nat) (nx : Nat → q_A → q_A → Bool) (pc : Nat) (i : Instr) (len a b : Nat) (A B : q_A) : Bool := match i with
  | .goto _ => nx a A B
  | .if_icmp _ _ => nx a A (B.drop 2) && nx (pc + 3) A (B.drop 2)
  | .ifCond _ _ => nx a A (B.drop 1) && nx (pc + 3) A (B.drop 1)
  | .tableswitch dflt _ _ offs => (match ez_tg pc dflt with
    | some q => nx q A (B.drop 1)
    | none => true) && offs.toList.all fun off => match ez_tg pc off with
      | some q => nx q A (B.drop 1)
      | none => true
  | .ireturn => (match rt with
    | some 0 => true
    | _ => false)
  | .lreturn => (match rt with
    | some 0 => true
    | _ => false)
  | .areturn => (match rt with
    | some r => Nat.beq r ((B[0]?).getD 0)
    | none => false)
  | .return_ => rt.isNone
  | .new _ => nx (pc + 3) A (1 :: B)
  | .newarray _ => nx (pc + 2) A (1 :: B.drop 1)
  | .invokevirtual _ => q_goes G nx pc a b A B
  | .invokestatic _ => bif Nat.beq a 901 || Nat.beq a 902 then nx (pc + 3) A (0 :: B.drop 2) else q_goes G nx pc a b A B
  | .invokespecial _ => bif Nat.beq a 900 then nx (pc + 3) A (B.drop 1) else q_goes G nx pc a b A B
  | i => match q_b sOK FT i b A B with
    | some (A', B') => nx (pc + len) A' B'
    | none => false
def q_run (sOK : Nat → Bool) (FT : List (Nat × Nat × Nat)) (G : List q_G) (g : q_G) : Nat → Bool → Nat → q_A → q_A → Bool
  | 0, _, _, _, _ => false
  | n + 1, first, pc, A, B => match bif first then none else g.2.2.2.find? (fun e => Nat.beq e.1 pc) with
    | some e => q_le e.2.1 A && q_le e.2.2 B
    | none => match ez_P0 g.1 pc with
      | none => true
      | some (i, len, a, b, cut, _, _) => q_one sOK FT G g.2.2.1 (q_run sOK FT G g n false) pc i len a b (q_cut cut A) B
def q_tl_ok (sOK : Nat → Bool) (FT : List (Nat × Nat × Nat)) (G : List q_G) (g : q_G) : Bool := g.2.2.2.all fun e => q_run sOK FT G g 300 true e.1 e.2.1 e.2.2
def q_chk (sOK : Nat → Bool) (FT : List (Nat × Nat × Nat)) (G : List q_G) (g : q_G) : Bool := q_tl_ok sOK FT G g && q_run sOK FT G g 300 true 0 g.2.1 []
def q_r (S : Nat → Prop) : Option Nat → Option Value → Prop
  | none, r => r = none
  | some a, r => ∃ v, r = some v ∧ q_v S a v
/-- of a method that is known otherwise -/
def q_given (S : Nat → Prop) (FT : List (Nat × Nat × Nat)) (h0 : ez_H) (X : ez_X) (g : q_G) : Prop := ∀ (N : Nat) (h : ez_H) (as : List Value), q_W S FT h0 h → q_m S g.2.1 as → pe N X g.1 as h (fun r h' => q_W S FT h0 h' ∧ q_r S g.2.2.1 r)
section
variable {S : Nat → Prop} {sOK : Nat → Bool} {FT : List (Nat × Nat × Nat)} {h0 : ez_H} {X : ez_X} {G : List q_G}
theorem q_le_s : ∀ {Y A : q_A} {l : List Value}, q_le Y A = true → q_m S A l → q_m S Y l := by
  intro Y
  induction Y with
  | nil => exact fun _ _ => q_nil
  | cons x s ih =>
    intro A l h hm
    cases A with
    | nil =>
      obtain ⟨h1, h2⟩ := Bool.and_eq_true_iff.mp h
      have hx := Nat.eq_of_beq_eq_true h1
      subst hx
      intro i c hc
      cases i with
      | zero => simp at hc
      | succ i =>
        simp at hc
        obtain ⟨w, g1, -⟩ := ih h2 (q_nil (S := S) (l := [])) i c hc
        simp at g1
    | cons y t =>
      obtain ⟨h1, h2⟩ := Bool.and_eq_true_iff.mp h
      intro i c hc
      cases i with
      | zero =>
        simp at hc
        subst hc
        have h3 : Nat.beq (c + 1) y = true := by
          cases hz : Nat.beq (c + 1) y with
          | true => rfl
          | false => rw [hz] at h1; cases h1
        have hy := Nat.eq_of_beq_eq_true h3
        exact hm 0 c (by simp [hy])
      | succ i =>
        simp at hc
        have ht : q_m S t (l.drop 1) := q_drop (A := y :: t) 1 hm
        obtain ⟨w, g1, g2⟩ := ih h2 ht i c hc
        rw [List.getElem?_drop, Nat.add_comm] at g1
        exact ⟨w, g1, g2⟩
theorem q_args_s {b : Nat} {B : q_A} {st : List Value} (hb : b ≤ st.length) (h : q_m S B st) : q_m S (q_args b B) (st.take b).reverse := by
  intro i c hc
  unfold q_args at hc
  rw [List.getElem?_map] at hc
  by_cases hi : i < b
  · rw [List.getElem?_range hi] at hc
    simp only [Option.map_some, Option.some.injEq] at hc
    have hB : B[b - 1 - i]? = some (c + 1) := by
      cases hz : B[b - 1 - i]? with
      | none => rw [hz] at hc; cases hc
      | some y => rw [hz] at hc; simp at hc; rw [hc]
    obtain ⟨v, h1, h2⟩ := h _ _ hB
    refine ⟨v, ?_, h2⟩
    rw [List.getElem?_reverse (by rw [List.length_take]; omega), List.length_take, Nat.min_eq_left hb, List.getElem?_take, if_pos (by omega)]
    exact h1
  · rw [List.getElem?_eq_none (by simp; omega)] at hc
    cases hc
theorem q_lay : ∀ {Y : q_A} {vs : List Value}, (Y.all fun x => !Nat.beq x 0) = true → q_m S Y vs → q_m S Y (ez_lay vs) := by
  intro Y
  induction Y with
  | nil => exact fun _ _ => q_nil
  | cons x s ih =>
    intro vs hy h
    simp only [List.all_cons, Bool.and_eq_true] at hy
    cases x with
    | zero => exact absurd hy.1 (by decide)
    | succ x =>
      obtain ⟨v, h1, h2⟩ := h 0 x (by simp)
      cases vs with
      | nil => simp at h1
      | cons u t =>
        simp at h1
        subst h1
        have hL : ez_isL u = false := by
          cases x with
          | zero => obtain ⟨p, rfl, -⟩ := h2; rfl
          | succ x =>
            have h2 : u = .ref x := h2
            rw [h2]
            rfl
        have e : ez_lay (u :: t) = u :: ez_lay t := by simp [ez_lay, hL]
        rw [e]
        exact q_cons h2 (ih hy.2 (q_tl h))
theorem q_sound (hS : ∀ p, sOK p = true → ¬ S p) (hG : ∀ g ∈ G, q_chk sOK FT G g = true ∨ q_given S FT h0 X g) : ∀ (F : Nat) (g : q_G) (n : Nat) (first : Bool) (pc : Nat) (A B : q_A) (ls st : List Value) (h : ez_H) (c k : Nat) (r : Option Value) (h' : ez_H) (c' k' : Nat),
    q_run sOK FT G g n first pc A B = true → q_tl_ok sOK FT G g = true → q_m S A ls → q_m S B st → q_W S FT h0 h → ev_R X F g.1 pc ls st h c k = some (r, h', c', k') → q_W S FT h0 h' ∧ q_r S g.2.2.1 r := by
  intro F
  induction F with
  | zero =>
    intro g n first pc A B ls st h c k r h' c' k' _ _ _ _ _ hz
    cases hz
  | succ F ih =>
    -- one instruction
    have step : ∀ (g : q_G) (n : Nat) (pc : Nat) (A B : q_A) (ls st : List Value) (h : ez_H) (c k : Nat) (r : Option Value) (h' : ez_H) (c' k' : Nat),
        q_run sOK FT G g n true pc A B = true → q_tl_ok sOK FT G g = true → q_m S A ls → q_m S B st → q_W S FT h0 h → ev_R X (F + 1) g.1 pc ls st h c k = some (r, h', c', k') → q_W S FT h0 h' ∧ q_r S g.2.2.1 r := by
      intro g n pc A B ls st h c k r h' c' k' hq ht hA hB hw hz
      cases n with
      | zero => cases hq
      | succ n =>
        unfold q_run at hq
        simp only [cond_true] at hq
        rw [← fx_up_ev X F 1, ev_up1] at hz
        unfold ez_stp at hz
        cases hP : ez_P0 g.1 pc with
        | none => rw [hP] at hz; cases hz
        | some y =>
          obtain ⟨i, len, a, b, cut, w, d⟩ := y
          rw [hP] at hq hz
          dsimp only at hq hz
          have hA2 : q_m S (q_cut cut A) (ez_cut cut ls) := q_cut_s hA
          generalize q_cut cut A = A2 at hq hA2
          generalize ez_cut cut ls = ls2 at hz hA2
          have go : ∀ {pc2 : Nat} {A3 B3 : q_A} {ls3 st3 : List Value} {h3 : ez_H} {c3 k3 : Nat}, q_run sOK FT G g n false pc2 A3 B3 = true → q_m S A3 ls3 → q_m S B3 st3 → q_W S FT h0 h3 → ev_R X F g.1 pc2 ls3 st3 h3 c3 k3 = some (r, h', c', k') → q_W S FT h0 h' ∧ q_r S g.2.2.1 r :=
            fun a1 a2 a3 a4 a5 => ih g n false _ _ _ _ _ _ _ _ _ _ _ _ a1 ht a2 a3 a4 a5
          have call : q_goes G (q_run sOK FT G g n false) pc a b A2 B = true → ez_go (ez_mL ez_M0) (ev_R X F) g.1 pc a b ls2 st h c k = some (r, h', c', k') → q_W S FT h0 h' ∧ q_r S g.2.2.1 r := by
            intro c1 c2
            unfold ez_go at c2
            obtain ⟨c3, c2⟩ := ez_bif c2
            obtain ⟨c4, c3⟩ := Bool.and_eq_true_iff.mp c3
            have hb : b ≤ st.length := Nat.le_of_ble_eq_true c4
            obtain ⟨g2, hg2, c5⟩ := List.any_eq_true.mp c1
            simp only [Bool.and_eq_true] at c5
            obtain ⟨c6, c7, c8, c9⟩ := c5
            have ea := Nat.eq_of_beq_eq_true c6
            subst ea
            have hargs : q_m S g2.2.1 (st.take b).reverse := q_le_s c7 (q_args_s hb hB)
            split at c2
            · rename_i r2 h2 c10 k10 hr2
              have hcal : q_W S FT h0 h2 ∧ q_r S g2.2.2.1 r2 := by
                rcases hG g2 hg2 with hc | hc
                · obtain ⟨t1, t2⟩ := Bool.and_eq_true_iff.mp hc
                  exact ih g2 300 true 0 g2.2.1 [] _ _ _ _ _ _ _ _ _ t2 t1 (q_lay c8 hargs) q_nil hw hr2
                · exact hc F h _ hw hargs F (Nat.le_refl F) _ _ _ _ hr2
              obtain ⟨w2, hr⟩ := hcal
              cases hret : g2.2.2.1 with
              | none =>
                rw [hret] at c9 hr
                have hr : r2 = none := hr
                subst hr
                exact go c9 hA2 (q_drop b hB) w2 c2
              | some x =>
                rw [hret] at c9 hr
                obtain ⟨v, rfl, hv⟩ := hr
                exact go c9 hA2 (q_cons hv (q_drop b hB)) w2 c2
            · cases c2
          have gen : ∀ i : Instr, (match q_b sOK FT i b A2 B with
              | some (A', B') => q_run sOK FT G g n false (pc + len) A' B'
              | none => false) = true → (match ez_b X ez_ty0 i a b ls2 st h with
              | some (ls', st', h') => ev_R X F g.1 (pc + len) ls' st' h' c k
              | none => none) = some (r, h', c', k') → q_W S FT h0 h' ∧ q_r S g.2.2.1 r := by
            intro i g1 g2
            cases hqb : q_b sOK FT i b A2 B with
            | none => rw [hqb] at g1; cases g1
            | some z =>
              obtain ⟨A', B'⟩ := z
              rw [hqb] at g1
              cases heb : ez_b X ez_ty0 i a b ls2 st h with
              | none => rw [heb] at g2; cases g2
              | some z =>
                obtain ⟨ls', st', h3⟩ := z
                rw [heb] at g2
                obtain ⟨m1, m2, m3⟩ := q_b_s hS hw hA2 hB hqb heb
                exact go g1 m1 m2 m3 g2
          have gi := gen i
          cases i with
          | goto _ => exact go hq hA2 hB hw hz
          | if_icmp o _ =>
            have hq : (q_run sOK FT G g n false a A2 (B.drop 2) && q_run sOK FT G g n false (pc + 3) A2 (B.drop 2)) = true := hq
            obtain ⟨q1, q2⟩ := Bool.and_eq_true_iff.mp hq
            dsimp only at hz
            split at hz
            · rename_i t r2 hc
              have hd : r2 = st.drop 2 := by
                unfold ez_icmp at hc
                split at hc
                · injection hc with hc
                  injection hc with hc1 hc2
                  rw [← hc2]
                  rfl
                · cases hc
              subst hd
              cases t with
              | true => exact go q1 hA2 (q_drop 2 hB) hw hz
              | false => exact go q2 hA2 (q_drop 2 hB) hw hz
            · cases hz
          | ifCond o _ =>
            have hq : (q_run sOK FT G g n false a A2 (B.drop 1) && q_run sOK FT G g n false (pc + 3) A2 (B.drop 1)) = true := hq
            obtain ⟨q1, q2⟩ := Bool.and_eq_true_iff.mp hq
            dsimp only at hz
            split at hz
            · rename_i t r2 hc
              have hd : r2 = st.drop 1 := by
                unfold ez_ifc at hc
                split at hc
                · injection hc with hc
                  injection hc with hc1 hc2
                  rw [← hc2]
                  rfl
                · cases hc
              subst hd
              cases t with
              | true => exact go q1 hA2 (q_drop 1 hB) hw hz
              | false => exact go q2 hA2 (q_drop 1 hB) hw hz
            · cases hz
          | tableswitch dflt lo hi offs =>
            obtain ⟨q1, q2⟩ := Bool.and_eq_true_iff.mp hq
            dsimp only at hz
            split at hz
            · rename_i x r2
              split at hz
              · rename_i q hsw
                have hq3 : q_run sOK FT G g n false q A2 (B.drop 1) = true := by
                  unfold ez_sw at hsw
                  cases hb : decide (x.toInt < lo ∨ hi < x.toInt) with
                  | true =>
                    rw [hb] at hsw
                    simp only [cond_true] at hsw
                    rw [hsw] at q1
                    exact q1
                  | false =>
                    rw [hb] at hsw
                    simp only [cond_false] at hsw
                    split at hsw
                    · rename_i off ho
                      have hm : off ∈ offs.toList := by
                        have := Array.mem_of_getElem? ho
                        simpa using this
                      have h5 := List.all_eq_true.mp q2 off hm
                      rw [hsw] at h5
                      exact h5
                    · cases hsw
                exact go hq3 hA2 (q_tl hB) hw hz
              · cases hz
            · cases hz
          | ireturn =>
            dsimp only at hz
            split at hz
            · obtain ⟨-, hz⟩ := ez_bif hz
              injection hz with hz
              injection hz with z1 hz
              injection hz with z2 hz
              subst z1 z2
              refine ⟨hw, ?_⟩
              have hq : (match (generalizing := false) g.2.2.1 with
                | some 0 => true
                | _ => false) = true := hq
              split at hq
              · rename_i hr
                rw [hr]
                exact ⟨_, rfl, trivial⟩
              · cases hq
            · cases hz
          | lreturn =>
            dsimp only at hz
            split at hz
            · injection hz with hz
              injection hz with z1 hz
              injection hz with z2 hz
              subst z1 z2
              refine ⟨hw, ?_⟩
              have hq : (match (generalizing := false) g.2.2.1 with
                | some 0 => true
                | _ => false) = true := hq
              split at hq
              · rename_i hr
                rw [hr]
                exact ⟨_, rfl, trivial⟩
              · cases hq
            · cases hz
          | areturn =>
            dsimp only at hz
            split at hz
            · injection hz with hz
              injection hz with z1 hz
              injection hz with z2 hz
              subst z1 z2
              refine ⟨hw, ?_⟩
              have hq : (match (generalizing := false) g.2.2.1 with
                | some r => Nat.beq r ((B[0]?).getD 0)
                | none => false) = true := hq
              split at hq
              · rename_i hr
                rw [hr, Nat.eq_of_beq_eq_true hq]
                exact ⟨_, rfl, q_hd hB⟩
              · cases hq
            · cases hz
          | return_ =>
            dsimp only at hz
            split at hz
            · injection hz with hz
              injection hz with z1 hz
              injection hz with z2 hz
              subst z1 z2
              refine ⟨hw, ?_⟩
              have hq : g.2.2.1.isNone = true := hq
              cases hr : g.2.2.1 with
              | none => rfl
              | some x => rw [hr] at hq; cases hq
            · cases hz
          | new _ => exact go hq hA2 (q_cons ⟨_, rfl, q_out hw⟩ hB) (q_app hw) hz
          | newarray ty =>
            dsimp only at hz
            split at hz
            · obtain ⟨-, hz⟩ := ez_bifN hz
              split at hz
              · exact go hq hA2 (q_cons ⟨_, rfl, q_out hw⟩ (q_tl hB)) (q_app hw) hz
              · exact go hq hA2 (q_cons ⟨_, rfl, q_out hw⟩ (q_tl hB)) (q_app hw) hz
              · cases hz
            · cases hz
          | invokevirtual _ =>
            obtain ⟨-, hz⟩ := ez_bif hz
            exact call hq hz
          | invokestatic _ =>
            have hq : (bif Nat.beq a 901 || Nat.beq a 902 then q_run sOK FT G g n false (pc + 3) A2 (0 :: B.drop 2) else q_goes G (q_run sOK FT G g n false) pc a b A2 B) = true := hq
            dsimp only at hz
            cases h1 : Nat.beq a 901 with
            | true =>
              rw [h1] at hq hz
              simp only [cond_true, Bool.true_or] at hq hz
              split at hz
              · obtain ⟨-, hz⟩ := ez_bif hz
                exact go hq hA2 (q_0 (q_tl2 hB)) hw hz
              · cases hz
            | false =>
              rw [h1] at hq hz
              simp only [cond_false, Bool.false_or] at hq hz
              cases h2 : Nat.beq a 902 with
              | true =>
                rw [h2] at hq hz
                simp only [cond_true] at hq hz
                split at hz
                · obtain ⟨-, hz⟩ := ez_bif hz
                  exact go hq hA2 (q_0 (q_tl2 hB)) hw hz
                · cases hz
              | false =>
                rw [h2] at hq hz
                simp only [cond_false] at hq hz
                exact call hq hz
          | invokespecial _ =>
            have hq : (bif Nat.beq a 900 then q_run sOK FT G g n false (pc + 3) A2 (B.drop 1) else q_goes G (q_run sOK FT G g n false) pc a b A2 B) = true := hq
            dsimp only at hz
            cases h1 : Nat.beq a 900 with
            | true =>
              rw [h1] at hq hz
              simp only [cond_true] at hq hz
              split at hz
              · obtain ⟨-, hz⟩ := ez_bif hz
                exact go hq hA2 (q_tl hB) hw hz
              · cases hz
            | false =>
              rw [h1] at hq hz
              simp only [cond_false] at hq hz
              obtain ⟨-, hz⟩ := ez_bif hz
              exact call hq hz
          | _ => exact gi hq hz
    intro g n first pc A B ls st h c k r h' c' k' hq ht hA hB hw hz
    cases n with
    | zero => cases hq
    | succ n =>
      cases first with
      | true => exact step g (n + 1) pc A B ls st h c k r h' c' k' hq ht hA hB hw hz
      | false =>
        cases hf : g.2.2.2.find? (fun e => Nat.beq e.1 pc) with
        | none =>
          refine step g (n + 1) pc A B ls st h c k r h' c' k' ?_ ht hA hB hw hz
          unfold q_run at hq ⊢
          simp only [cond_false, cond_true] at hq ⊢
          rw [hf] at hq
          exact hq
        | some e =>
          unfold q_run at hq
          simp only [cond_false] at hq
          rw [hf] at hq
          obtain ⟨q1, q2⟩ := Bool.and_eq_true_iff.mp hq
          have hm := List.mem_of_find?_eq_some hf
          have hp2 := List.find?_some hf
          have hp := Nat.eq_of_beq_eq_true hp2
          subst hp
          exact step g 300 e.1 e.2.1 e.2.2 ls st h c k r h' c' k' (List.all_eq_true.mp ht e hm) ht (q_le_s q1 hA) (q_le_s q2 hB) hw hz
/-- a method that is checked leaves the kept cells -/
theorem q_method (hS : ∀ p, sOK p = true → ¬ S p) (hG : ∀ g ∈ G, q_chk sOK FT G g = true ∨ q_given S FT h0 X g) {g : q_G} (hg : g ∈ G) {as : List Value} {h : ez_H} {N : Nat} (hw : q_W S FT h0 h) (ha : q_m S g.2.1 (ez_lay as)) (hc : q_chk sOK FT G g = true) : pe N X g.1 as h (fun r h' => q_W S FT h0 h' ∧ q_r S g.2.2.1 r) := by
  obtain ⟨t1, t2⟩ := Bool.and_eq_true_iff.mp hc
  exact fun F _ r h' c' k' hz => q_sound hS hG F g 300 true 0 g.2.1 [] _ _ _ _ _ _ _ _ _ t2 t1 ha q_nil hw hz
/-- from a told place on -/
theorem q_place (hS : ∀ p, sOK p = true → ¬ S p) (hG : ∀ g ∈ G, q_chk sOK FT G g = true ∨ q_given S FT h0 X g) {g : q_G} {pc : Nat} {A B : q_A} {ls st : List Value} {h : ez_H} {N : Nat} (hr : q_run sOK FT G g 300 true pc A B = true) (ht : q_tl_ok sOK FT G g = true) (hw : q_W S FT h0 h) (hA : q_m S A ls) (hB : q_m S B st) :
    pw N X g.1 pc ls st h (fun r h' => q_W S FT h0 h' ∧ q_r S g.2.2.1 r) :=
  fun c k F _ r h' c' k' hz => q_sound hS hG F g 300 true pc A B ls st h c k r h' c' k' hr ht hA hB hw hz
end
