section
/-! A second, small checker: which cells a method leaves as they are. A value is 0 (any), 1 (a reference to a cell that isn't kept), p + 2 (a reference to the cell p). S: the cells that are kept. -/
abbrev q_A : Type := List Nat
noncomputable def q_v (S : Nat → Prop) : Nat → Value → Prop
  | 0, _ => True
  | 1, v => ∃ p, v = .ref p ∧ ¬ S p
  | p + 2, v => v = .ref p
noncomputable def q_m (S : Nat → Prop) (A : q_A) (l : List Value) : Prop := ∀ (i a : Nat), A[i]? = some (a + 1) → ∃ v, l[i]? = some v ∧ q_v S (a + 1) v
section
variable {S : Nat → Prop} {A B : q_A} {l l' : List Value} {a : Nat} {v : Value}
theorem q_nil : q_m S [] l := fun i a h => by simp at h
theorem q_cons (h : q_v S a v) (hl : q_m S A l) : q_m S (a :: A) (v :: l) := by
  intro i b hb
  cases i with
  | zero =>
    simp at hb
    subst hb
    exact ⟨v, by simp, h⟩
  | succ i =>
    simp at hb
    obtain ⟨w, h1, h2⟩ := hl i b hb
    exact ⟨w, by simpa using h1, h2⟩
theorem q_0 (hl : q_m S A l) : q_m S (0 :: A) (v :: l) := q_cons (show q_v S 0 v from trivial) hl
theorem q_drop (n : Nat) (h : q_m S A l) : q_m S (A.drop n) (l.drop n) := by
  intro i b hb
  rw [List.getElem?_drop] at hb ⊢
  exact h _ b hb
theorem q_take (n : Nat) (h : q_m S A l) : q_m S (A.take n) (l.take n) := by
  intro i b hb
  rw [List.getElem?_take] at hb ⊢
  split at hb
  · rename_i hi
    rw [if_pos hi]
    exact h _ b hb
  · cases hb
theorem q_tl (h : q_m S A (v :: l)) : q_m S (A.drop 1) l := q_drop 1 h
theorem q_tl2 {w : Value} (h : q_m S A (v :: w :: l)) : q_m S (A.drop 2) l := q_drop 2 h
theorem q_tl3 {w u : Value} (h : q_m S A (v :: w :: u :: l)) : q_m S (A.drop 3) l := q_drop 3 h
theorem q_get (h : q_m S A l) {i : Nat} (hv : l[i]? = some v) : q_v S ((A[i]?).getD 0) v := by
  cases hA : A[i]? with
  | none => trivial
  | some b =>
    cases b with
    | zero => trivial
    | succ b =>
      obtain ⟨w, h1, h2⟩ := h i b hA
      rw [hv] at h1
      injection h1 with h1
      subst h1
      exact h2
theorem q_hd (h : q_m S A (v :: l)) : q_v S (A[0]?.getD 0) v := q_get h (by simp)
theorem q_hd1 {w : Value} (h : q_m S A (v :: w :: l)) : q_v S (A[1]?.getD 0) w := q_get h (by simp)
theorem q_hd2 {w u : Value} (h : q_m S A (v :: w :: u :: l)) : q_v S (A[2]?.getD 0) u := q_get h (by simp)
noncomputable def q_cut (n : Nat) (A : q_A) : q_A := bif Nat.ble 200 n then A else A.take n
theorem q_cut_s {n : Nat} (h : q_m S A l) : q_m S (q_cut n A) (ez_cut n l) := by
  unfold q_cut ez_cut
  cases Nat.ble 200 n with
  | true => exact h
  | false => exact q_take n h
noncomputable def q_put : q_A → Nat → Nat → q_A
  | [], 0, v => [v]
  | [], n + 1, v => 0 :: q_put [] n v
  | _ :: t, 0, v => v :: t
  | a :: t, n + 1, v => a :: q_put t n v
theorem q_put_s (hv : q_v S a v) : ∀ (n : Nat) {A : q_A} {l : List Value}, q_m S A l → q_m S (q_put A n a) (ez_put l n v) := by
  intro n
  induction n with
  | zero =>
    intro A l h
    cases A with
    | nil => cases l with
      | nil => exact q_cons hv q_nil
      | cons w t => exact q_cons hv q_nil
    | cons b s => cases l with
      | nil =>
        refine q_cons hv fun i c hc => ?_
        obtain ⟨w, h1, -⟩ := h (i + 1) c (by simpa using hc)
        simp at h1
      | cons w t => exact q_cons hv (q_tl h)
  | succ n ih =>
    intro A l h
    cases A with
    | nil => cases l with
      | nil => exact q_0 (ih (A := []) (l := []) q_nil)
      | cons w t => exact q_0 (ih (A := []) q_nil)
    | cons b s => cases l with
      | nil =>
        have h2 : q_m S s [] := fun i c hc => by
          obtain ⟨w, h1, -⟩ := h (i + 1) c (by simpa using hc)
          simp at h1
        cases b with
        | zero => exact q_0 (ih h2)
        | succ b =>
          obtain ⟨w, h1, -⟩ := h 0 b (by simp)
          simp at h1
      | cons w t => exact q_cons (q_hd h) (ih (q_tl h))
theorem ez_put_fw : ∀ (l : List Value) (i : Nat) (v : Value) (j : Nat) (w : Value), l[j]? = some w → j ≠ i → (ez_put l i v)[j]? = some w := by
  intro l
  induction l with
  | nil => intro i v j w h; simp at h
  | cons a t ih =>
    intro i v j w h hj
    cases i with
    | zero =>
      cases j with
      | zero => exact absurd rfl hj
      | succ j => simpa [ez_put] using h
    | succ i =>
      cases j with
      | zero => simpa [ez_put] using h
      | succ j =>
        simp at h
        simpa [ez_put] using ih i v j w h (by omega)
theorem q_clr {n : Nat} (h : q_m S A l) : q_m S A (ez_clr l n) := by
  cases n with
  | zero => exact h
  | succ n =>
    simp only [ez_clr]
    split
    · rename_i w hw
      cases hb : ez_isL w with
      | false => exact h
      | true =>
        simp only [cond_true]
        intro i b hb2
        obtain ⟨u, h1, h2⟩ := h i b hb2
        refine ⟨u, ez_put_fw l n ez_fill i u h1 fun e => ?_, h2⟩
        subst e
        rw [hw] at h1
        injection h1 with h1
        subst h1
        have : ∃ p, w = .ref p := by
          cases b with
          | zero => obtain ⟨p, hp, -⟩ := h2; exact ⟨p, hp⟩
          | succ b => exact ⟨b, h2⟩
        obtain ⟨p, rfl⟩ := this
        cases hb
    · exact h
theorem q_st1 {n : Nat} (hv : q_v S a v) (h : q_m S A l) : q_m S (q_put A n a) (ez_st1 l n v) := q_put_s hv n (q_clr h)
theorem q_st2 {n : Nat} (h : q_m S A l) : q_m S (q_put (q_put A n 0) (n + 1) 0) (ez_st2 l n v) := q_put_s (show q_v S 0 ez_fill from trivial) (n + 1) (q_put_s (show q_v S 0 v from trivial) n (q_clr h))
end
/-- kept cells are as they were; what fields of objects are known to hold -/
noncomputable def q_W (S : Nat → Prop) (FT : List (Nat × Nat × Nat)) (h0 h : ez_H) : Prop := (∀ p, S p → p < h.length ∧ h[p]? = h0[p]?) ∧ ∀ e ∈ FT, ∃ c fs v, h[e.1]? = some (.inr (c, fs)) ∧ fs[e.2.1]? = some v ∧ q_v S e.2.2 v
section
variable {S : Nat → Prop} {FT : List (Nat × Nat × Nat)} {h0 h : ez_H} {p : Nat}
theorem q_lt {x : ez_C} (hp : h[p]? = some x) : p < h.length := (List.getElem?_eq_some_iff.mp hp).1
theorem q_arr {x x' : vp_A} (hw : q_W S FT h0 h) (hs : ¬ S p) (hp : h[p]? = some (.inl x)) : q_W S FT h0 (h.set p (.inl x')) := by
  refine ⟨fun q hq => ?_, fun e he => ?_⟩
  · have hne : p ≠ q := fun e => hs (by rw [e]; exact hq)
    rw [List.length_set, List.getElem?_set_ne hne]
    exact hw.1 q hq
  · obtain ⟨c, fs, v, h1, h2, h3⟩ := hw.2 e he
    refine ⟨c, fs, v, ?_, h2, h3⟩
    rw [List.getElem?_set_ne (fun z => by rw [← z, hp] at h1; injection h1 with h1; cases h1)]
    exact h1
theorem q_obj {c k : Nat} {fs : List Value} {w : Value} (hw : q_W S FT h0 h) (hs : ¬ S p) (hp : h[p]? = some (.inr (c, fs))) (hk : k < fs.length) (hv : ∀ e ∈ FT, e.1 = p → e.2.1 = k → q_v S e.2.2 w) : q_W S FT h0 (h.set p (.inr (c, fs.set k w))) := by
  refine ⟨fun q hq => ?_, fun e he => ?_⟩
  · have hne : p ≠ q := fun e => hs (by rw [e]; exact hq)
    rw [List.length_set, List.getElem?_set_ne hne]
    exact hw.1 q hq
  · obtain ⟨c2, fs2, v, h1, h2, h3⟩ := hw.2 e he
    by_cases hpe : p = e.1
    · rw [← hpe, hp] at h1
      injection h1 with h1
      injection h1 with h1
      injection h1 with hc hf
      subst hc hf
      by_cases hke : k = e.2.1
      · exact ⟨c, fs.set k w, w, by rw [← hpe, List.getElem?_set_self (q_lt hp)], by rw [← hke, List.getElem?_set_self hk], hv e he hpe.symm hke.symm⟩
      · exact ⟨c, fs.set k w, v, by rw [← hpe, List.getElem?_set_self (q_lt hp)], by rw [List.getElem?_set_ne hke]; exact h2, h3⟩
    · exact ⟨c2, fs2, v, by rw [List.getElem?_set_ne hpe]; exact h1, h2, h3⟩
theorem q_app {x : ez_C} (hw : q_W S FT h0 h) : q_W S FT h0 (h ++ [x]) := by
  refine ⟨fun q hq => ?_, fun e he => ?_⟩
  · obtain ⟨h1, h2⟩ := hw.1 q hq
    rw [List.length_append, List.getElem?_append_left h1]
    exact ⟨by omega, h2⟩
  · obtain ⟨c, fs, v, h1, h2, h3⟩ := hw.2 e he
    exact ⟨c, fs, v, by rw [List.getElem?_append_left (q_lt h1)]; exact h1, h2, h3⟩
theorem q_out (hw : q_W S FT h0 h) : ¬ S h.length := fun z => Nat.lt_irrefl _ (hw.1 _ z).1
end
noncomputable def q_ft (FT : List (Nat × Nat × Nat)) (p k : Nat) : Nat := match FT.find? (fun e => Nat.beq e.1 p && Nat.beq e.2.1 k) with
  | some e => e.2.2
  | none => 0
noncomputable def q_ok (sOK : Nat → Bool) : Nat → Bool
  | 0 => false
  | 1 => true
  | p + 2 => sOK p
/-- the instructions that neither make, call, jump nor end -/
noncomputable def q_b (sOK : Nat → Bool) (FT : List (Nat × Nat × Nat)) (i : Instr) (b : Nat) (A B : q_A) : Option (q_A × q_A) := match i with
  | .aload_n k => some (A, (A[k.val]?).getD 0 :: B)
  | .aload k => some (A, (A[k]?).getD 0 :: B)
  | .iload_n _ => some (A, 0 :: B)
  | .iload _ => some (A, 0 :: B)
  | .lload_n _ => some (A, 0 :: B)
  | .lload _ => some (A, 0 :: B)
  | .istore_n k => some (q_put A k.val 0, B.drop 1)
  | .istore k => some (q_put A k 0, B.drop 1)
  | .lstore_n k => some (q_put (q_put A k.val 0) (k.val + 1) 0, B.drop 1)
  | .lstore k => some (q_put (q_put A k 0) (k + 1) 0, B.drop 1)
  | .astore_n k => some (q_put A k.val ((B[0]?).getD 0), B.drop 1)
  | .astore k => some (q_put A k ((B[0]?).getD 0), B.drop 1)
  | .iinc k _ => some (q_put A k 0, B)
  | .iconst _ => some (A, 0 :: B)
  | .lconst _ => some (A, 0 :: B)
  | .bipush _ => some (A, 0 :: B)
  | .sipush _ => some (A, 0 :: B)
  | .ldc _ => some (A, 0 :: B)
  | .ldc_w _ => some (A, 0 :: B)
  | .ldc2_w _ => some (A, 0 :: B)
  | .iadd => some (A, 0 :: B.drop 2)
  | .isub => some (A, 0 :: B.drop 2)
  | .imul => some (A, 0 :: B.drop 2)
  | .idiv => some (A, 0 :: B.drop 2)
  | .irem => some (A, 0 :: B.drop 2)
  | .iand => some (A, 0 :: B.drop 2)
  | .ior => some (A, 0 :: B.drop 2)
  | .ixor => some (A, 0 :: B.drop 2)
  | .ishl => some (A, 0 :: B.drop 2)
  | .ishr => some (A, 0 :: B.drop 2)
  | .iushr => some (A, 0 :: B.drop 2)
  | .ladd => some (A, 0 :: B.drop 2)
  | .lsub => some (A, 0 :: B.drop 2)
  | .lmul => some (A, 0 :: B.drop 2)
  | .land => some (A, 0 :: B.drop 2)
  | .lor => some (A, 0 :: B.drop 2)
  | .lxor => some (A, 0 :: B.drop 2)
  | .lshl => some (A, 0 :: B.drop 2)
  | .lshr => some (A, 0 :: B.drop 2)
  | .lushr => some (A, 0 :: B.drop 2)
  | .lcmp => some (A, 0 :: B.drop 2)
  | .i2l => some (A, 0 :: B.drop 1)
  | .l2i => some (A, 0 :: B.drop 1)
  | .dup => some (A, (B[0]?).getD 0 :: (B[0]?).getD 0 :: B.drop 1)
  | .dup2 => some (A, (B[0]?).getD 0 :: (B[1]?).getD 0 :: (B[0]?).getD 0 :: (B[1]?).getD 0 :: B.drop 2)
  | .pop => some (A, B.drop 1)
  | .pop2 => some (A, B.drop 1)
  | .iaload => some (A, 0 :: B.drop 2)
  | .laload => some (A, 0 :: B.drop 2)
  | .iastore => bif q_ok sOK ((B[2]?).getD 0) then some (A, B.drop 3) else none
  | .lastore => bif q_ok sOK ((B[2]?).getD 0) then some (A, B.drop 3) else none
  | .arraylength => some (A, 0 :: B.drop 1)
  | .getfield _ => some (A, (match (B[0]?).getD 0 with
    | p + 2 => q_ft FT p b
    | _ => 0) :: B.drop 1)
  | .putfield _ => (match (B[1]?).getD 0 with
    | p + 2 => bif sOK p && FT.all (fun e => !(Nat.beq e.1 p && Nat.beq e.2.1 b) || Nat.beq e.2.2 ((B[0]?).getD 0)) then some (A, B.drop 2) else none
    | _ => none)
  | _ => none
section
variable {S : Nat → Prop} {sOK : Nat → Bool} {FT : List (Nat × Nat × Nat)} {h0 h h' : ez_H} {A B A' B' : q_A} {ls st ls' st' : List Value} {a b : Nat} {X : ez_X} {i : Instr}
theorem q_ok_s (hS : ∀ p, sOK p = true → ¬ S p) {x : Nat} {v : Value} (h : q_ok sOK x = true) (hv : q_v S x v) : ∃ p, v = .ref p ∧ ¬ S p := by
  match x with
  | 0 => cases h
  | 1 => exact hv
  | p + 2 => exact ⟨p, hv, hS p h⟩
theorem q_ft_s {p k : Nat} (hw : q_W S FT h0 h) {c : Nat} {fs : List Value} {v : Value} (hp : h[p]? = some (.inr (c, fs))) (hk : fs[k]? = some v) : q_v S (q_ft FT p k) v := by
  unfold q_ft
  split
  · rename_i e he
    have h1 := List.mem_of_find?_eq_some he
    have h2 := List.find?_some he
    obtain ⟨h3, h4⟩ := Bool.and_eq_true_iff.mp h2
    obtain ⟨c2, fs2, v2, g1, g2, g3⟩ := hw.2 e h1
    rw [Nat.eq_of_beq_eq_true h3, hp] at g1
    injection g1 with g1
    injection g1 with g1
    injection g1 with g1 g4
    subst g4
    rw [Nat.eq_of_beq_eq_true h4, hk] at g2
    injection g2 with g2
    subst g2
    exact g3
  · trivial
theorem q_map3 {f : Option (List Value)} (e : (f.map fun t => (ls, t, h)) = some (ls', st', h')) : f = some st' ∧ ls' = ls ∧ h' = h := by
  obtain ⟨t, h1, h2⟩ := Option.map_eq_some_iff.mp e
  injection h2 with h2 h3
  injection h3 with h3 h4
  subst h2 h3 h4
  exact ⟨h1, rfl, rfl⟩
theorem q_mapH {f : Option (List Value × ez_H)} (e : (f.map fun t => (ls, t.1, t.2)) = some (ls', st', h')) : f = some (st', h') ∧ ls' = ls := by
  obtain ⟨⟨t1, t2⟩, h1, h2⟩ := Option.map_eq_some_iff.mp e
  injection h2 with h2 h3
  injection h3 with h3 h4
  simp only at h3 h4
  subst h2 h3 h4
  exact ⟨h1, rfl⟩
theorem q_ldA {i : Nat} {t : List Value} (h : ez_ldA ls i st = some t) : ∃ v, ls[i]? = some v ∧ t = v :: st := by
  unfold ez_ldA at h
  split at h
  · rename_i v hv
    injection h with h
    exact ⟨_, hv, h.symm⟩
  · rename_i n hn
    cases hb : (n == 1) with
    | true =>
      rw [hb] at h
      simp only [cond_true] at h
      injection h with h
      have : n = 1 := by simpa using hb
      subst this
      exact ⟨_, hn, h.symm⟩
    | false => rw [hb] at h; cases h
  · cases h
theorem q_iald {t : List Value} (e : ez_iald X h st = some t) : ∃ i v w r, st = i :: v :: r ∧ t = .int w :: r := by
  unfold ez_iald at e
  split at e
  · split at e
    · obtain ⟨-, e⟩ := ev_in_inv e
      exact ⟨_, _, _, _, rfl, e.symm⟩
    · cases e
  · rename_i n r
    cases hb : (n == 1) with
    | true =>
      rw [hb] at e
      simp only [cond_true] at e
      obtain ⟨-, e⟩ := ev_in_inv e
      exact ⟨_, _, _, _, rfl, e.symm⟩
    | false => rw [hb] at e; cases e
  · cases e
theorem q_lald {t : List Value} (e : ez_lald h st = some t) : ∃ i v w r, st = i :: v :: r ∧ t = .long w :: r := by
  unfold ez_lald at e
  split at e
  · split at e
    · obtain ⟨-, e⟩ := ev_in_inv e
      exact ⟨_, _, _, _, rfl, e.symm⟩
    · cases e
  · cases e
theorem q_iast {t : List Value} (e : ez_iast h st = some (t, h')) : ∃ x i p y y', st = x :: i :: .ref p :: t ∧ h[p]? = some (.inl y) ∧ h' = h.set p (.inl y') := by
  unfold ez_iast at e
  split at e
  · split at e
    · rename_i hp
      obtain ⟨-, e⟩ := ev_in_inv e
      injection e with e1 e2
      subst e1
      exact ⟨_, _, _, _, _, rfl, hp, e2.symm⟩
    · cases e
  · cases e
theorem q_last {t : List Value} (e : ez_last h st = some (t, h')) : ∃ x i p y y', st = x :: i :: .ref p :: t ∧ h[p]? = some (.inl y) ∧ h' = h.set p (.inl y') := by
  unfold ez_last at e
  split at e
  · split at e
    · rename_i hp
      obtain ⟨-, e⟩ := ev_in_inv e
      injection e with e1 e2
      subst e1
      exact ⟨_, _, _, _, _, rfl, hp, e2.symm⟩
    · cases e
  · cases e
theorem q_alen {t : List Value} (e : ez_alen X h st = some t) : ∃ v w r, st = v :: r ∧ t = .int w :: r := by
  unfold ez_alen at e
  split at e
  · split at e
    · injection e with e
      exact ⟨_, _, _, rfl, e.symm⟩
    · injection e with e
      exact ⟨_, _, _, rfl, e.symm⟩
    · cases e
  · rename_i n r
    cases hb : (n == 1) with
    | true =>
      rw [hb] at e
      simp only [cond_true] at e
      injection e with e
      exact ⟨_, _, _, rfl, e.symm⟩
    | false => rw [hb] at e; cases e
  · cases e
theorem q_getf {ci k : Nat} {t : List Value} (e : ez_get ci k h st = some t) : ∃ p c fs v r, st = .ref p :: r ∧ h[p]? = some (.inr (c, fs)) ∧ fs[k]? = some v ∧ t = v :: r := by
  unfold ez_get at e
  split at e
  · split at e
    · rename_i hp
      obtain ⟨-, e⟩ := ez_bif e
      split at e
      · rename_i hv
        injection e with e
        exact ⟨_, _, _, _, _, rfl, hp, hv, e.symm⟩
      · cases e
    · cases e
  · cases e
theorem q_setf {ty : FieldType} {ci k : Nat} {t : List Value} (e : ez_set ty ci k h st = some (t, h')) : ∃ w p c fs, st = w :: .ref p :: t ∧ h[p]? = some (.inr (c, fs)) ∧ k < fs.length ∧ h' = h.set p (.inr (c, fs.set k w)) := by
  unfold ez_set at e
  split at e
  · split at e
    · rename_i hp
      obtain ⟨hb, e⟩ := ez_bif e
      injection e with e
      injection e with e1 e2
      subst e1
      simp only [Bool.and_eq_true] at hb
      exact ⟨_, _, _, _, rfl, hp, Nat.le_of_ble_eq_true hb.2, e2.symm⟩
    · cases e
  · cases e
theorem q_b_s {ty : Nat → Nat → FieldType} (hS : ∀ p, sOK p = true → ¬ S p) (hw : q_W S FT h0 h) (hA : q_m S A ls) (hB : q_m S B st) (hq : q_b sOK FT i b A B = some (A', B')) (he : ez_b X ty i a b ls st h = some (ls', st', h')) : q_m S A' ls' ∧ q_m S B' st' ∧ q_W S FT h0 h' := by
  cases i with
  | aload_n k =>
    have he : (ez_ldA ls k.val st).map (fun t => (ls, t, h)) = some (ls', st', h') := he
    obtain ⟨e1, rfl, rfl⟩ := q_map3 he
    obtain ⟨v, e2, rfl⟩ := q_ldA e1
    injection hq with hq
    injection hq with hq1 hq2
    subst hq1 hq2
    exact ⟨hA, q_cons (q_get hA e2) hB, hw⟩
  | aload k =>
    have he : (ez_ldA ls k st).map (fun t => (ls, t, h)) = some (ls', st', h') := he
    obtain ⟨e1, rfl, rfl⟩ := q_map3 he
    obtain ⟨v, e2, rfl⟩ := q_ldA e1
    injection hq with hq
    injection hq with hq1 hq2
    subst hq1 hq2
    exact ⟨hA, q_cons (q_get hA e2) hB, hw⟩
  | iload_n k =>
    have he : (ez_ldI ls k.val st).map (fun t => (ls, t, h)) = some (ls', st', h') := he
    obtain ⟨e1, rfl, rfl⟩ := q_map3 he
    obtain ⟨v, e2, rfl⟩ := ez_ldI_s e1
    injection hq with hq
    injection hq with hq1 hq2
    subst hq1 hq2
    exact ⟨hA, q_0 hB, hw⟩
  | iload k =>
    have he : (ez_ldI ls k st).map (fun t => (ls, t, h)) = some (ls', st', h') := he
    obtain ⟨e1, rfl, rfl⟩ := q_map3 he
    obtain ⟨v, e2, rfl⟩ := ez_ldI_s e1
    injection hq with hq
    injection hq with hq1 hq2
    subst hq1 hq2
    exact ⟨hA, q_0 hB, hw⟩
  | lload_n k =>
    have he : (ez_ldL ls k.val st).map (fun t => (ls, t, h)) = some (ls', st', h') := he
    obtain ⟨e1, rfl, rfl⟩ := q_map3 he
    obtain ⟨v, e2, rfl⟩ := ez_ldL_s e1
    injection hq with hq
    injection hq with hq1 hq2
    subst hq1 hq2
    exact ⟨hA, q_0 hB, hw⟩
  | lload k =>
    have he : (ez_ldL ls k st).map (fun t => (ls, t, h)) = some (ls', st', h') := he
    obtain ⟨e1, rfl, rfl⟩ := q_map3 he
    obtain ⟨v, e2, rfl⟩ := ez_ldL_s e1
    injection hq with hq
    injection hq with hq1 hq2
    subst hq1 hq2
    exact ⟨hA, q_0 hB, hw⟩
  | istore_n k =>
    have he : (match (generalizing := false) st with
      | .int v :: r => some (ez_st1 ls k.val (.int v), r, h)
      | _ => none) = some (ls', st', h') := he
    split at he
    · injection he with he
      injection he with e1 he
      injection he with e2 e3
      subst e1 e2 e3
      injection hq with hq
      injection hq with hq1 hq2
      subst hq1 hq2
      exact ⟨q_st1 (a := 0) trivial hA, q_tl hB, hw⟩
    · cases he
  | istore k =>
    have he : (match (generalizing := false) st with
      | .int v :: r => some (ez_st1 ls k (.int v), r, h)
      | _ => none) = some (ls', st', h') := he
    split at he
    · injection he with he
      injection he with e1 he
      injection he with e2 e3
      subst e1 e2 e3
      injection hq with hq
      injection hq with hq1 hq2
      subst hq1 hq2
      exact ⟨q_st1 (a := 0) trivial hA, q_tl hB, hw⟩
    · cases he
  | lstore_n k =>
    have he : (match (generalizing := false) st with
      | .long v :: r => some (ez_st2 ls k.val (.long v), r, h)
      | _ => none) = some (ls', st', h') := he
    split at he
    · injection he with he
      injection he with e1 he
      injection he with e2 e3
      subst e1 e2 e3
      injection hq with hq
      injection hq with hq1 hq2
      subst hq1 hq2
      exact ⟨q_st2 hA, q_tl hB, hw⟩
    · cases he
  | lstore k =>
    have he : (match (generalizing := false) st with
      | .long v :: r => some (ez_st2 ls k (.long v), r, h)
      | _ => none) = some (ls', st', h') := he
    split at he
    · injection he with he
      injection he with e1 he
      injection he with e2 e3
      subst e1 e2 e3
      injection hq with hq
      injection hq with hq1 hq2
      subst hq1 hq2
      exact ⟨q_st2 hA, q_tl hB, hw⟩
    · cases he
  | astore_n k =>
    have he : (match (generalizing := false) st with
      | .ref v :: r => some (ez_st1 ls k.val (.ref v), r, h)
      | _ => none) = some (ls', st', h') := he
    split at he
    · injection he with he
      injection he with e1 he
      injection he with e2 e3
      subst e1 e2 e3
      injection hq with hq
      injection hq with hq1 hq2
      subst hq1 hq2
      exact ⟨q_st1 (q_hd hB) hA, q_tl hB, hw⟩
    · cases he
  | astore k =>
    have he : (match (generalizing := false) st with
      | .ref v :: r => some (ez_st1 ls k (.ref v), r, h)
      | _ => none) = some (ls', st', h') := he
    split at he
    · injection he with he
      injection he with e1 he
      injection he with e2 e3
      subst e1 e2 e3
      injection hq with hq
      injection hq with hq1 hq2
      subst hq1 hq2
      exact ⟨q_st1 (q_hd hB) hA, q_tl hB, hw⟩
    · cases he
  | iinc k n =>
    have he : (match (generalizing := false) ls[k]? with
      | some (.int v) => some (ez_st1 ls k (.int (v + Int32.ofInt n)), st, h)
      | _ => none) = some (ls', st', h') := he
    split at he
    · injection he with he
      injection he with e1 he
      injection he with e2 e3
      subst e1 e2 e3
      injection hq with hq
      injection hq with hq1 hq2
      subst hq1 hq2
      exact ⟨q_st1 (a := 0) trivial hA, hB, hw⟩
    · cases he
  | iconst n =>
    have he : some (ls, Value.int (Int32.ofInt n) :: st, h) = some (ls', st', h') := he
    injection he with he
    injection he with e1 he
    injection he with e2 e3
    subst e1 e2 e3
    injection hq with hq
    injection hq with hq1 hq2
    subst hq1 hq2
    exact ⟨hA, q_0 hB, hw⟩
  | lconst n =>
    have he : some (ls, Value.long (Int64.ofNat n.val) :: st, h) = some (ls', st', h') := he
    injection he with he
    injection he with e1 he
    injection he with e2 e3
    subst e1 e2 e3
    injection hq with hq
    injection hq with hq1 hq2
    subst hq1 hq2
    exact ⟨hA, q_0 hB, hw⟩
  | bipush n =>
    have he : some (ls, Value.int (Int8.ofInt n).toInt32 :: st, h) = some (ls', st', h') := he
    injection he with he
    injection he with e1 he
    injection he with e2 e3
    subst e1 e2 e3
    injection hq with hq
    injection hq with hq1 hq2
    subst hq1 hq2
    exact ⟨hA, q_0 hB, hw⟩
  | sipush n =>
    have he : some (ls, Value.int (Int16.ofInt n).toInt32 :: st, h) = some (ls', st', h') := he
    injection he with he
    injection he with e1 he
    injection he with e2 e3
    subst e1 e2 e3
    injection hq with hq
    injection hq with hq1 hq2
    subst hq1 hq2
    exact ⟨hA, q_0 hB, hw⟩
  | ldc _ =>
    have he : some (ls, Value.int (Int32.ofNat b) :: st, h) = some (ls', st', h') := he
    injection he with he
    injection he with e1 he
    injection he with e2 e3
    subst e1 e2 e3
    injection hq with hq
    injection hq with hq1 hq2
    subst hq1 hq2
    exact ⟨hA, q_0 hB, hw⟩
  | ldc_w _ =>
    have he : some (ls, Value.int (Int32.ofNat b) :: st, h) = some (ls', st', h') := he
    injection he with he
    injection he with e1 he
    injection he with e2 e3
    subst e1 e2 e3
    injection hq with hq
    injection hq with hq1 hq2
    subst hq1 hq2
    exact ⟨hA, q_0 hB, hw⟩
  | ldc2_w _ =>
    have he : some (ls, Value.long (Int64.ofNat b) :: st, h) = some (ls', st', h') := he
    injection he with he
    injection he with e1 he
    injection he with e2 e3
    subst e1 e2 e3
    injection hq with hq
    injection hq with hq1 hq2
    subst hq1 hq2
    exact ⟨hA, q_0 hB, hw⟩
  | iadd =>
    have he : (ez_bin (fun x y => x + y) st).map (fun t => (ls, t, h)) = some (ls', st', h') := he
    obtain ⟨e1, rfl, rfl⟩ := q_map3 he
    obtain ⟨x, y, r, rfl, rfl⟩ := ez_bin_s e1
    injection hq with hq
    injection hq with hq1 hq2
    subst hq1 hq2
    exact ⟨hA, q_0 (q_tl2 hB), hw⟩
  | isub =>
    have he : (ez_bin (fun x y => x - y) st).map (fun t => (ls, t, h)) = some (ls', st', h') := he
    obtain ⟨e1, rfl, rfl⟩ := q_map3 he
    obtain ⟨x, y, r, rfl, rfl⟩ := ez_bin_s e1
    injection hq with hq
    injection hq with hq1 hq2
    subst hq1 hq2
    exact ⟨hA, q_0 (q_tl2 hB), hw⟩
  | imul =>
    have he : (ez_bin (fun x y => x * y) st).map (fun t => (ls, t, h)) = some (ls', st', h') := he
    obtain ⟨e1, rfl, rfl⟩ := q_map3 he
    obtain ⟨x, y, r, rfl, rfl⟩ := ez_bin_s e1
    injection hq with hq
    injection hq with hq1 hq2
    subst hq1 hq2
    exact ⟨hA, q_0 (q_tl2 hB), hw⟩
  | idiv =>
    have he : (ez_binD (fun x y => x / y) st).map (fun t => (ls, t, h)) = some (ls', st', h') := he
    obtain ⟨e1, rfl, rfl⟩ := q_map3 he
    obtain ⟨x, y, r, rfl, rfl, -⟩ := ez_binD_s e1
    injection hq with hq
    injection hq with hq1 hq2
    subst hq1 hq2
    exact ⟨hA, q_0 (q_tl2 hB), hw⟩
  | irem =>
    have he : (ez_binD (fun x y => x - x / y * y) st).map (fun t => (ls, t, h)) = some (ls', st', h') := he
    obtain ⟨e1, rfl, rfl⟩ := q_map3 he
    obtain ⟨x, y, r, rfl, rfl, -⟩ := ez_binD_s e1
    injection hq with hq
    injection hq with hq1 hq2
    subst hq1 hq2
    exact ⟨hA, q_0 (q_tl2 hB), hw⟩
  | iand =>
    have he : (ez_bin (fun x y => x &&& y) st).map (fun t => (ls, t, h)) = some (ls', st', h') := he
    obtain ⟨e1, rfl, rfl⟩ := q_map3 he
    obtain ⟨x, y, r, rfl, rfl⟩ := ez_bin_s e1
    injection hq with hq
    injection hq with hq1 hq2
    subst hq1 hq2
    exact ⟨hA, q_0 (q_tl2 hB), hw⟩
  | ior =>
    have he : (ez_bin (fun x y => x ||| y) st).map (fun t => (ls, t, h)) = some (ls', st', h') := he
    obtain ⟨e1, rfl, rfl⟩ := q_map3 he
    obtain ⟨x, y, r, rfl, rfl⟩ := ez_bin_s e1
    injection hq with hq
    injection hq with hq1 hq2
    subst hq1 hq2
    exact ⟨hA, q_0 (q_tl2 hB), hw⟩
  | ixor =>
    have he : (ez_bin (fun x y => x ^^^ y) st).map (fun t => (ls, t, h)) = some (ls', st', h') := he
    obtain ⟨e1, rfl, rfl⟩ := q_map3 he
    obtain ⟨x, y, r, rfl, rfl⟩ := ez_bin_s e1
    injection hq with hq
    injection hq with hq1 hq2
    subst hq1 hq2
    exact ⟨hA, q_0 (q_tl2 hB), hw⟩
  | ishl =>
    have he : (ez_bin (fun x y => x <<< (y &&& 31)) st).map (fun t => (ls, t, h)) = some (ls', st', h') := he
    obtain ⟨e1, rfl, rfl⟩ := q_map3 he
    obtain ⟨x, y, r, rfl, rfl⟩ := ez_bin_s e1
    injection hq with hq
    injection hq with hq1 hq2
    subst hq1 hq2
    exact ⟨hA, q_0 (q_tl2 hB), hw⟩
  | ishr =>
    have he : (ez_bin (fun x y => x >>> (y &&& 31)) st).map (fun t => (ls, t, h)) = some (ls', st', h') := he
    obtain ⟨e1, rfl, rfl⟩ := q_map3 he
    obtain ⟨x, y, r, rfl, rfl⟩ := ez_bin_s e1
    injection hq with hq
    injection hq with hq1 hq2
    subst hq1 hq2
    exact ⟨hA, q_0 (q_tl2 hB), hw⟩
  | iushr =>
    have he : (ez_bin (fun x y => (x.toUInt32 >>> (y.toUInt32 &&& Int32.toUInt32 31)).toInt32) st).map (fun t => (ls, t, h)) = some (ls', st', h') := he
    obtain ⟨e1, rfl, rfl⟩ := q_map3 he
    obtain ⟨x, y, r, rfl, rfl⟩ := ez_bin_s e1
    injection hq with hq
    injection hq with hq1 hq2
    subst hq1 hq2
    exact ⟨hA, q_0 (q_tl2 hB), hw⟩
  | ladd =>
    have he : (ez_binL (fun x y => x + y) st).map (fun t => (ls, t, h)) = some (ls', st', h') := he
    obtain ⟨e1, rfl, rfl⟩ := q_map3 he
    obtain ⟨x, y, r, rfl, rfl⟩ := ez_binL_s e1
    injection hq with hq
    injection hq with hq1 hq2
    subst hq1 hq2
    exact ⟨hA, q_0 (q_tl2 hB), hw⟩
  | lsub =>
    have he : (ez_binL (fun x y => x - y) st).map (fun t => (ls, t, h)) = some (ls', st', h') := he
    obtain ⟨e1, rfl, rfl⟩ := q_map3 he
    obtain ⟨x, y, r, rfl, rfl⟩ := ez_binL_s e1
    injection hq with hq
    injection hq with hq1 hq2
    subst hq1 hq2
    exact ⟨hA, q_0 (q_tl2 hB), hw⟩
  | lmul =>
    have he : (ez_binL (fun x y => x * y) st).map (fun t => (ls, t, h)) = some (ls', st', h') := he
    obtain ⟨e1, rfl, rfl⟩ := q_map3 he
    obtain ⟨x, y, r, rfl, rfl⟩ := ez_binL_s e1
    injection hq with hq
    injection hq with hq1 hq2
    subst hq1 hq2
    exact ⟨hA, q_0 (q_tl2 hB), hw⟩
  | land =>
    have he : (ez_binL (fun x y => x &&& y) st).map (fun t => (ls, t, h)) = some (ls', st', h') := he
    obtain ⟨e1, rfl, rfl⟩ := q_map3 he
    obtain ⟨x, y, r, rfl, rfl⟩ := ez_binL_s e1
    injection hq with hq
    injection hq with hq1 hq2
    subst hq1 hq2
    exact ⟨hA, q_0 (q_tl2 hB), hw⟩
  | lor =>
    have he : (ez_binL (fun x y => x ||| y) st).map (fun t => (ls, t, h)) = some (ls', st', h') := he
    obtain ⟨e1, rfl, rfl⟩ := q_map3 he
    obtain ⟨x, y, r, rfl, rfl⟩ := ez_binL_s e1
    injection hq with hq
    injection hq with hq1 hq2
    subst hq1 hq2
    exact ⟨hA, q_0 (q_tl2 hB), hw⟩
  | lxor =>
    have he : (ez_binL (fun x y => x ^^^ y) st).map (fun t => (ls, t, h)) = some (ls', st', h') := he
    obtain ⟨e1, rfl, rfl⟩ := q_map3 he
    obtain ⟨x, y, r, rfl, rfl⟩ := ez_binL_s e1
    injection hq with hq
    injection hq with hq1 hq2
    subst hq1 hq2
    exact ⟨hA, q_0 (q_tl2 hB), hw⟩
  | lshl =>
    have he : (ez_sh (fun x y => x <<< (y.toInt64 &&& 63)) st).map (fun t => (ls, t, h)) = some (ls', st', h') := he
    obtain ⟨e1, rfl, rfl⟩ := q_map3 he
    obtain ⟨x, y, r, rfl, rfl⟩ := ez_sh_s e1
    injection hq with hq
    injection hq with hq1 hq2
    subst hq1 hq2
    exact ⟨hA, q_0 (q_tl2 hB), hw⟩
  | lshr =>
    have he : (ez_sh (fun x y => x >>> (y.toInt64 &&& 63)) st).map (fun t => (ls, t, h)) = some (ls', st', h') := he
    obtain ⟨e1, rfl, rfl⟩ := q_map3 he
    obtain ⟨x, y, r, rfl, rfl⟩ := ez_sh_s e1
    injection hq with hq
    injection hq with hq1 hq2
    subst hq1 hq2
    exact ⟨hA, q_0 (q_tl2 hB), hw⟩
  | lushr =>
    have he : (ez_sh (fun x y => (x.toUInt64 >>> (y.toInt64.toUInt64 &&& Int64.toUInt64 63)).toInt64) st).map (fun t => (ls, t, h)) = some (ls', st', h') := he
    obtain ⟨e1, rfl, rfl⟩ := q_map3 he
    obtain ⟨x, y, r, rfl, rfl⟩ := ez_sh_s e1
    injection hq with hq
    injection hq with hq1 hq2
    subst hq1 hq2
    exact ⟨hA, q_0 (q_tl2 hB), hw⟩
  | lcmp =>
    have he : (ez_lcmp st).map (fun t => (ls, t, h)) = some (ls', st', h') := he
    obtain ⟨e1, rfl, rfl⟩ := q_map3 he
    obtain ⟨x, y, r, rfl, rfl⟩ := ez_lcmp_s e1
    injection hq with hq
    injection hq with hq1 hq2
    subst hq1 hq2
    exact ⟨hA, q_0 (q_tl2 hB), hw⟩
  | i2l =>
    have he : (ez_i2l st).map (fun t => (ls, t, h)) = some (ls', st', h') := he
    obtain ⟨e1, rfl, rfl⟩ := q_map3 he
    obtain ⟨x, r, rfl, rfl⟩ := ez_i2l_s e1
    injection hq with hq
    injection hq with hq1 hq2
    subst hq1 hq2
    exact ⟨hA, q_0 (q_tl hB), hw⟩
  | l2i =>
    have he : (ez_l2i st).map (fun t => (ls, t, h)) = some (ls', st', h') := he
    obtain ⟨e1, rfl, rfl⟩ := q_map3 he
    obtain ⟨x, r, rfl, rfl⟩ := ez_l2i_s e1
    injection hq with hq
    injection hq with hq1 hq2
    subst hq1 hq2
    exact ⟨hA, q_0 (q_tl hB), hw⟩
  | dup =>
    have he : (ez_dup st).map (fun t => (ls, t, h)) = some (ls', st', h') := he
    obtain ⟨e1, rfl, rfl⟩ := q_map3 he
    obtain ⟨v, r, rfl, rfl, -⟩ := ez_dup_s e1
    injection hq with hq
    injection hq with hq1 hq2
    subst hq1 hq2
    exact ⟨hA, q_cons (q_hd hB) (q_cons (q_hd hB) (q_tl hB)), hw⟩
  | dup2 =>
    have he : (ez_dup2 st).map (fun t => (ls, t, h)) = some (ls', st', h') := he
    obtain ⟨e1, rfl, rfl⟩ := q_map3 he
    obtain ⟨v, w, r, rfl, rfl, -, -⟩ := ez_dup2_s e1
    injection hq with hq
    injection hq with hq1 hq2
    subst hq1 hq2
    exact ⟨hA, q_cons (q_hd hB) (q_cons (q_hd1 hB) (q_cons (q_hd hB) (q_cons (q_hd1 hB) (q_tl2 hB)))), hw⟩
  | pop =>
    have he : (ez_pop st).map (fun t => (ls, t, h)) = some (ls', st', h') := he
    obtain ⟨e1, rfl, rfl⟩ := q_map3 he
    obtain ⟨v, rfl, -⟩ := ez_pop_s e1
    injection hq with hq
    injection hq with hq1 hq2
    subst hq1 hq2
    exact ⟨hA, q_tl hB, hw⟩
  | pop2 =>
    have he : (ez_pop2 st).map (fun t => (ls, t, h)) = some (ls', st', h') := he
    obtain ⟨e1, rfl, rfl⟩ := q_map3 he
    obtain ⟨v, rfl, -⟩ := ez_pop2_s e1
    injection hq with hq
    injection hq with hq1 hq2
    subst hq1 hq2
    exact ⟨hA, q_tl hB, hw⟩
  | iaload =>
    have he : (ez_iald X h st).map (fun t => (ls, t, h)) = some (ls', st', h') := he
    obtain ⟨e1, rfl, rfl⟩ := q_map3 he
    obtain ⟨i, v, w, r, rfl, rfl⟩ := q_iald e1
    injection hq with hq
    injection hq with hq1 hq2
    subst hq1 hq2
    exact ⟨hA, q_0 (q_tl2 hB), hw⟩
  | laload =>
    have he : (ez_lald h st).map (fun t => (ls, t, h)) = some (ls', st', h') := he
    obtain ⟨e1, rfl, rfl⟩ := q_map3 he
    obtain ⟨i, v, w, r, rfl, rfl⟩ := q_lald e1
    injection hq with hq
    injection hq with hq1 hq2
    subst hq1 hq2
    exact ⟨hA, q_0 (q_tl2 hB), hw⟩
  | arraylength =>
    have he : (ez_alen X h st).map (fun t => (ls, t, h)) = some (ls', st', h') := he
    obtain ⟨e1, rfl, rfl⟩ := q_map3 he
    obtain ⟨v, w, r, rfl, rfl⟩ := q_alen e1
    injection hq with hq
    injection hq with hq1 hq2
    subst hq1 hq2
    exact ⟨hA, q_0 (q_tl hB), hw⟩
  | iastore =>
    have he : (ez_iast h st).map (fun t => (ls, t.1, t.2)) = some (ls', st', h') := he
    have hq : (bif q_ok sOK ((B[2]?).getD 0) then some (A, B.drop 3) else none) = some (A', B') := hq
    obtain ⟨e1, rfl⟩ := q_mapH he
    obtain ⟨x, i, p, y, y', rfl, hp, rfl⟩ := q_iast e1
    obtain ⟨hk, hq⟩ := ez_bif hq
    obtain ⟨p', e2, hs⟩ := q_ok_s hS hk (q_hd2 hB)
    injection e2 with e2
    subst e2
    injection hq with hq
    injection hq with hq1 hq2
    subst hq1 hq2
    exact ⟨hA, q_tl3 hB, q_arr hw hs hp⟩
  | lastore =>
    have he : (ez_last h st).map (fun t => (ls, t.1, t.2)) = some (ls', st', h') := he
    have hq : (bif q_ok sOK ((B[2]?).getD 0) then some (A, B.drop 3) else none) = some (A', B') := hq
    obtain ⟨e1, rfl⟩ := q_mapH he
    obtain ⟨x, i, p, y, y', rfl, hp, rfl⟩ := q_last e1
    obtain ⟨hk, hq⟩ := ez_bif hq
    obtain ⟨p', e2, hs⟩ := q_ok_s hS hk (q_hd2 hB)
    injection e2 with e2
    subst e2
    injection hq with hq
    injection hq with hq1 hq2
    subst hq1 hq2
    exact ⟨hA, q_tl3 hB, q_arr hw hs hp⟩
  | getfield _ =>
    have he : (ez_get a b h st).map (fun t => (ls, t, h)) = some (ls', st', h') := he
    obtain ⟨e1, rfl, rfl⟩ := q_map3 he
    obtain ⟨p, c, fs, v, r, rfl, hp, hv, rfl⟩ := q_getf e1
    injection hq with hq
    injection hq with hq1 hq2
    subst hq1 hq2
    refine ⟨hA, q_cons ?_ (q_tl hB), hw⟩
    have h1 := q_hd hB
    split
    · rename_i p' hp'
      rw [hp'] at h1
      injection h1 with h1
      subst h1
      exact q_ft_s hw hp hv
    · trivial
  | putfield _ =>
    have he : (ez_set (ty a b) a b h st).map (fun t => (ls, t.1, t.2)) = some (ls', st', h') := he
    have hq : (match (B[1]?).getD 0 with
      | p + 2 => bif sOK p && FT.all (fun e => !(Nat.beq e.1 p && Nat.beq e.2.1 b) || Nat.beq e.2.2 ((B[0]?).getD 0)) then some (A, B.drop 2) else none
      | _ => none) = some (A', B') := hq
    obtain ⟨e1, rfl⟩ := q_mapH he
    obtain ⟨w, p, c, fs, rfl, hp, hk, rfl⟩ := q_setf e1
    have h1 := q_hd1 hB
    split at hq
    · rename_i p' hp'
      rw [hp'] at h1
      injection h1 with h1
      subst h1
      obtain ⟨hb, hq⟩ := ez_bif hq
      obtain ⟨hb1, hb2⟩ := Bool.and_eq_true_iff.mp hb
      injection hq with hq
      injection hq with hq1 hq2
      subst hq1 hq2
      refine ⟨hA, q_tl2 hB, q_obj hw (hS p hb1) hp hk fun e he h2 h3 => ?_⟩
      have h4 := List.all_eq_true.mp hb2 e he
      rw [h2, h3] at h4
      simp only [Nat.beq_refl, Bool.and_self, Bool.not_true, Bool.false_or] at h4
      rw [Nat.eq_of_beq_eq_true h4]
      exact q_hd hB
    · cases hq
  | _ => cases hq
end
/-! The runner. -/
/-- a method, the references that it is called with (the first of its arguments), what it answers, told places -/
abbrev q_G : Type := Nat × q_A × Option Nat × List (Nat × q_A × q_A)
noncomputable def q_le : q_A → q_A → Bool
  | [], _ => true
  | x :: s, y :: t => (Nat.beq x 0 || Nat.beq x y) && q_le s t
  | x :: s, [] => Nat.beq x 0 && q_le s []
noncomputable def q_args (b : Nat) (B : q_A) : q_A := (List.range b).map fun j => (B[b - 1 - j]?).getD 0
noncomputable def q_goes (G : List q_G) (nx : Nat → q_A → q_A → Bool) (pc a b : Nat) (A B : q_A) : Bool := G.any fun g => Nat.beq g.1 a && (q_le g.2.1 (q_args b B) && (g.2.1.all (fun x => !Nat.beq x 0) && (match g.2.2.1 with
  | none => nx (pc + 3) A (B.drop b)
  | some r => nx (pc + 3) A (r :: B.drop b))))
noncomputable def q_one (sOK : Nat → Bool) (FT : List (Nat × Nat × Nat)) (G : List q_G) (rt : Option Nat) (nx : Nat → q_A → q_A → Bool) (pc : Nat) (i : Instr) (len a b : Nat) (A B : q_A) : Bool := match i with
  | .goto _ => nx a A B
  | .if_icmp _ _ => nx a A (B.drop 2) && nx (pc + 3) A (B.drop 2)
  | .ifCond _ _ => nx a A (B.drop 1) && nx (pc + 3) A (B.drop 1)
  | .tableswitch dflt _ _ offs => (match ez_tg pc dflt with
    | some q => nx q A (B.drop 1)
    | none => true) && offs.toList.all fun off => match ez_tg pc off with
      | some q => nx q A (B.drop 1)
      | none => true
  | .ireturn => (match rt with
    | some 0 => true
    | _ => false)
  | .lreturn => (match rt with
    | some 0 => true
    | _ => false)
  | .areturn => (match rt with
    | some r => Nat.beq r ((B[0]?).getD 0)
    | none => false)
  | .return_ => rt.isNone
  | .new _ => nx (pc + 3) A (1 :: B)
  | .newarray _ => nx (pc + 2) A (1 :: B.drop 1)
  | .invokevirtual _ => q_goes G nx pc a b A B
  | .invokestatic _ => bif Nat.beq a 901 || Nat.beq a 902 then nx (pc + 3) A (0 :: B.drop 2) else q_goes G nx pc a b A B
  | .invokespecial _ => bif Nat.beq a 900 then nx (pc + 3) A (B.drop 1) else q_goes G nx pc a b A B
  | i => match q_b sOK FT i b A B with
    | some (A', B') => nx (pc + len) A' B'
    | none => false
noncomputable def q_run (sOK : Nat → Bool) (FT : List (Nat × Nat × Nat)) (G : List q_G) (g : q_G) : Nat → Bool → Nat → q_A → q_A → Bool
  | 0, _, _, _, _ => false
  | n + 1, first, pc, A, B => match bif first then none else g.2.2.2.find? (fun e => Nat.beq e.1 pc) with
    | some e => q_le e.2.1 A && q_le e.2.2 B
    | none => match ez_P0 g.1 pc with
      | none => true
      | some (i, len, a, b, cut, _, _) => q_one sOK FT G g.2.2.1 (q_run sOK FT G g n false) pc i len a b (q_cut cut A) B
noncomputable def q_tl_ok (sOK : Nat → Bool) (FT : List (Nat × Nat × Nat)) (G : List q_G) (g : q_G) : Bool := g.2.2.2.all fun e => q_run sOK FT G g 300 true e.1 e.2.1 e.2.2
noncomputable def q_chk (sOK : Nat → Bool) (FT : List (Nat × Nat × Nat)) (G : List q_G) (g : q_G) : Bool := q_tl_ok sOK FT G g && q_run sOK FT G g 300 true 0 g.2.1 []
noncomputable def q_r (S : Nat → Prop) : Option Nat → Option Value → Prop
  | none, r => r = none
  | some a, r => ∃ v, r = some v ∧ q_v S a v
/-- of a method that is known otherwise -/
noncomputable def q_given (S : Nat → Prop) (FT : List (Nat × Nat × Nat)) (h0 : ez_H) (X : ez_X) (g : q_G) : Prop := ∀ (N : Nat) (h : ez_H) (as : List Value), q_W S FT h0 h → q_m S g.2.1 as → pe N X g.1 as h (fun r h' => q_W S FT h0 h' ∧ q_r S g.2.2.1 r)
section
variable {S : Nat → Prop} {sOK : Nat → Bool} {FT : List (Nat × Nat × Nat)} {h0 : ez_H} {X : ez_X} {G : List q_G}
theorem q_le_s : ∀ {Y A : q_A} {l : List Value}, q_le Y A = true → q_m S A l → q_m S Y l := by
  intro Y
  induction Y with
  | nil => exact fun _ _ => q_nil
  | cons x s ih =>
    intro A l h hm
    cases A with
    | nil =>
      obtain ⟨h1, h2⟩ := Bool.and_eq_true_iff.mp h
      have hx := Nat.eq_of_beq_eq_true h1
      subst hx
      intro i c hc
      cases i with
      | zero => simp at hc
      | succ i =>
        simp at hc
        obtain ⟨w, g1, -⟩ := ih h2 (q_nil (S := S) (l := [])) i c hc
        simp at g1
    | cons y t =>
      obtain ⟨h1, h2⟩ := Bool.and_eq_true_iff.mp h
      intro i c hc
      cases i with
      | zero =>
        simp at hc
        subst hc
        have h3 : Nat.beq (c + 1) y = true := by
          cases hz : Nat.beq (c + 1) y with
          | true => rfl
          | false => rw [hz] at h1; cases h1
        have hy := Nat.eq_of_beq_eq_true h3
        exact hm 0 c (by simp [hy])
      | succ i =>
        simp at hc
        have ht : q_m S t (l.drop 1) := q_drop (A := y :: t) 1 hm
        obtain ⟨w, g1, g2⟩ := ih h2 ht i c hc
        rw [List.getElem?_drop, Nat.add_comm] at g1
        exact ⟨w, g1, g2⟩
theorem q_args_s {b : Nat} {B : q_A} {st : List Value} (hb : b ≤ st.length) (h : q_m S B st) : q_m S (q_args b B) (st.take b).reverse := by
  intro i c hc
  unfold q_args at hc
  rw [List.getElem?_map] at hc
  by_cases hi : i < b
  · rw [List.getElem?_range hi] at hc
    simp only [Option.map_some, Option.some.injEq] at hc
    have hB : B[b - 1 - i]? = some (c + 1) := by
      cases hz : B[b - 1 - i]? with
      | none => rw [hz] at hc; cases hc
      | some y => rw [hz] at hc; simp at hc; rw [hc]
    obtain ⟨v, h1, h2⟩ := h _ _ hB
    refine ⟨v, ?_, h2⟩
    rw [List.getElem?_reverse (by rw [List.length_take]; omega), List.length_take, Nat.min_eq_left hb, List.getElem?_take, if_pos (by omega)]
    exact h1
  · rw [List.getElem?_eq_none (by simp; omega)] at hc
    cases hc
theorem q_lay : ∀ {Y : q_A} {vs : List Value}, (Y.all fun x => !Nat.beq x 0) = true → q_m S Y vs → q_m S Y (ez_lay vs) := by
  intro Y
  induction Y with
  | nil => exact fun _ _ => q_nil
  | cons x s ih =>
    intro vs hy h
    simp only [List.all_cons, Bool.and_eq_true] at hy
    cases x with
    | zero => exact absurd hy.1 (by decide)
    | succ x =>
      obtain ⟨v, h1, h2⟩ := h 0 x (by simp)
      cases vs with
      | nil => simp at h1
      | cons u t =>
        simp at h1
        subst h1
        have hL : ez_isL u = false := by
          cases x with
          | zero => obtain ⟨p, rfl, -⟩ := h2; rfl
          | succ x =>
            have h2 : u = .ref x := h2
            rw [h2]
            rfl
        have e : ez_lay (u :: t) = u :: ez_lay t := by simp [ez_lay, hL]
        rw [e]
        exact q_cons h2 (ih hy.2 (q_tl h))
theorem q_sound (hS : ∀ p, sOK p = true → ¬ S p) (hG : ∀ g ∈ G, q_chk sOK FT G g = true ∨ q_given S FT h0 X g) : ∀ (F : Nat) (g : q_G) (n : Nat) (first : Bool) (pc : Nat) (A B : q_A) (ls st : List Value) (h : ez_H) (c k : Nat) (r : Option Value) (h' : ez_H) (c' k' : Nat),
    q_run sOK FT G g n first pc A B = true → q_tl_ok sOK FT G g = true → q_m S A ls → q_m S B st → q_W S FT h0 h → ev_R X F g.1 pc ls st h c k = some (r, h', c', k') → q_W S FT h0 h' ∧ q_r S g.2.2.1 r := by
  intro F
  induction F with
  | zero =>
    intro g n first pc A B ls st h c k r h' c' k' _ _ _ _ _ hz
    cases hz
  | succ F ih =>
    -- one instruction
    have step : ∀ (g : q_G) (n : Nat) (pc : Nat) (A B : q_A) (ls st : List Value) (h : ez_H) (c k : Nat) (r : Option Value) (h' : ez_H) (c' k' : Nat),
        q_run sOK FT G g n true pc A B = true → q_tl_ok sOK FT G g = true → q_m S A ls → q_m S B st → q_W S FT h0 h → ev_R X (F + 1) g.1 pc ls st h c k = some (r, h', c', k') → q_W S FT h0 h' ∧ q_r S g.2.2.1 r := by
      intro g n pc A B ls st h c k r h' c' k' hq ht hA hB hw hz
      cases n with
      | zero => cases hq
      | succ n =>
        unfold q_run at hq
        simp only [cond_true] at hq
        rw [← fx_up_ev X F 1, ev_up1] at hz
        unfold ez_stp at hz
        cases hP : ez_P0 g.1 pc with
        | none => rw [hP] at hz; cases hz
        | some y =>
          obtain ⟨i, len, a, b, cut, w, d⟩ := y
          rw [hP] at hq hz
          dsimp only at hq hz
          have hA2 : q_m S (q_cut cut A) (ez_cut cut ls) := q_cut_s hA
          generalize q_cut cut A = A2 at hq hA2
          generalize ez_cut cut ls = ls2 at hz hA2
          have go : ∀ {pc2 : Nat} {A3 B3 : q_A} {ls3 st3 : List Value} {h3 : ez_H} {c3 k3 : Nat}, q_run sOK FT G g n false pc2 A3 B3 = true → q_m S A3 ls3 → q_m S B3 st3 → q_W S FT h0 h3 → ev_R X F g.1 pc2 ls3 st3 h3 c3 k3 = some (r, h', c', k') → q_W S FT h0 h' ∧ q_r S g.2.2.1 r :=
            fun a1 a2 a3 a4 a5 => ih g n false _ _ _ _ _ _ _ _ _ _ _ _ a1 ht a2 a3 a4 a5
          have call : q_goes G (q_run sOK FT G g n false) pc a b A2 B = true → ez_go (ez_mL ez_M0) (ev_R X F) g.1 pc a b ls2 st h c k = some (r, h', c', k') → q_W S FT h0 h' ∧ q_r S g.2.2.1 r := by
            intro c1 c2
            unfold ez_go at c2
            obtain ⟨c3, c2⟩ := ez_bif c2
            obtain ⟨c4, c3⟩ := Bool.and_eq_true_iff.mp c3
            have hb : b ≤ st.length := Nat.le_of_ble_eq_true c4
            obtain ⟨g2, hg2, c5⟩ := List.any_eq_true.mp c1
            simp only [Bool.and_eq_true] at c5
            obtain ⟨c6, c7, c8, c9⟩ := c5
            have ea := Nat.eq_of_beq_eq_true c6
            subst ea
            have hargs : q_m S g2.2.1 (st.take b).reverse := q_le_s c7 (q_args_s hb hB)
            split at c2
            · rename_i r2 h2 c10 k10 hr2
              have hcal : q_W S FT h0 h2 ∧ q_r S g2.2.2.1 r2 := by
                rcases hG g2 hg2 with hc | hc
                · obtain ⟨t1, t2⟩ := Bool.and_eq_true_iff.mp hc
                  exact ih g2 300 true 0 g2.2.1 [] _ _ _ _ _ _ _ _ _ t2 t1 (q_lay c8 hargs) q_nil hw hr2
                · exact hc F h _ hw hargs F (Nat.le_refl F) _ _ _ _ hr2
              obtain ⟨w2, hr⟩ := hcal
              cases hret : g2.2.2.1 with
              | none =>
                rw [hret] at c9 hr
                have hr : r2 = none := hr
                subst hr
                exact go c9 hA2 (q_drop b hB) w2 c2
              | some x =>
                rw [hret] at c9 hr
                obtain ⟨v, rfl, hv⟩ := hr
                exact go c9 hA2 (q_cons hv (q_drop b hB)) w2 c2
            · cases c2
          have gen : ∀ i : Instr, (match q_b sOK FT i b A2 B with
              | some (A', B') => q_run sOK FT G g n false (pc + len) A' B'
              | none => false) = true → (match ez_b X ez_ty0 i a b ls2 st h with
              | some (ls', st', h') => ev_R X F g.1 (pc + len) ls' st' h' c k
              | none => none) = some (r, h', c', k') → q_W S FT h0 h' ∧ q_r S g.2.2.1 r := by
            intro i g1 g2
            cases hqb : q_b sOK FT i b A2 B with
            | none => rw [hqb] at g1; cases g1
            | some z =>
              obtain ⟨A', B'⟩ := z
              rw [hqb] at g1
              cases heb : ez_b X ez_ty0 i a b ls2 st h with
              | none => rw [heb] at g2; cases g2
              | some z =>
                obtain ⟨ls', st', h3⟩ := z
                rw [heb] at g2
                obtain ⟨m1, m2, m3⟩ := q_b_s hS hw hA2 hB hqb heb
                exact go g1 m1 m2 m3 g2
          have gi := gen i
          cases i with
          | goto _ => exact go hq hA2 hB hw hz
          | if_icmp o _ =>
            have hq : (q_run sOK FT G g n false a A2 (B.drop 2) && q_run sOK FT G g n false (pc + 3) A2 (B.drop 2)) = true := hq
            obtain ⟨q1, q2⟩ := Bool.and_eq_true_iff.mp hq
            dsimp only at hz
            split at hz
            · rename_i t r2 hc
              have hd : r2 = st.drop 2 := by
                unfold ez_icmp at hc
                split at hc
                · injection hc with hc
                  injection hc with hc1 hc2
                  rw [← hc2]
                  rfl
                · cases hc
              subst hd
              cases t with
              | true => exact go q1 hA2 (q_drop 2 hB) hw hz
              | false => exact go q2 hA2 (q_drop 2 hB) hw hz
            · cases hz
          | ifCond o _ =>
            have hq : (q_run sOK FT G g n false a A2 (B.drop 1) && q_run sOK FT G g n false (pc + 3) A2 (B.drop 1)) = true := hq
            obtain ⟨q1, q2⟩ := Bool.and_eq_true_iff.mp hq
            dsimp only at hz
            split at hz
            · rename_i t r2 hc
              have hd : r2 = st.drop 1 := by
                unfold ez_ifc at hc
                split at hc
                · injection hc with hc
                  injection hc with hc1 hc2
                  rw [← hc2]
                  rfl
                · cases hc
              subst hd
              cases t with
              | true => exact go q1 hA2 (q_drop 1 hB) hw hz
              | false => exact go q2 hA2 (q_drop 1 hB) hw hz
            · cases hz
          | tableswitch dflt lo hi offs =>
            obtain ⟨q1, q2⟩ := Bool.and_eq_true_iff.mp hq
            dsimp only at hz
            split at hz
            · rename_i x r2
              split at hz
              · rename_i q hsw
                have hq3 : q_run sOK FT G g n false q A2 (B.drop 1) = true := by
                  unfold ez_sw at hsw
                  cases hb : decide (x.toInt < lo ∨ hi < x.toInt) with
                  | true =>
                    rw [hb] at hsw
                    simp only [cond_true] at hsw
                    rw [hsw] at q1
                    exact q1
                  | false =>
                    rw [hb] at hsw
                    simp only [cond_false] at hsw
                    split at hsw
                    · rename_i off ho
                      have hm : off ∈ offs.toList := by
                        have := Array.mem_of_getElem? ho
                        simpa using this
                      have h5 := List.all_eq_true.mp q2 off hm
                      rw [hsw] at h5
                      exact h5
                    · cases hsw
                exact go hq3 hA2 (q_tl hB) hw hz
              · cases hz
            · cases hz
          | ireturn =>
            dsimp only at hz
            split at hz
            · obtain ⟨-, hz⟩ := ez_bif hz
              injection hz with hz
              injection hz with z1 hz
              injection hz with z2 hz
              subst z1 z2
              refine ⟨hw, ?_⟩
              have hq : (match (generalizing := false) g.2.2.1 with
                | some 0 => true
                | _ => false) = true := hq
              split at hq
              · rename_i hr
                rw [hr]
                exact ⟨_, rfl, trivial⟩
              · cases hq
            · cases hz
          | lreturn =>
            dsimp only at hz
            split at hz
            · injection hz with hz
              injection hz with z1 hz
              injection hz with z2 hz
              subst z1 z2
              refine ⟨hw, ?_⟩
              have hq : (match (generalizing := false) g.2.2.1 with
                | some 0 => true
                | _ => false) = true := hq
              split at hq
              · rename_i hr
                rw [hr]
                exact ⟨_, rfl, trivial⟩
              · cases hq
            · cases hz
          | areturn =>
            dsimp only at hz
            split at hz
            · injection hz with hz
              injection hz with z1 hz
              injection hz with z2 hz
              subst z1 z2
              refine ⟨hw, ?_⟩
              have hq : (match (generalizing := false) g.2.2.1 with
                | some r => Nat.beq r ((B[0]?).getD 0)
                | none => false) = true := hq
              split at hq
              · rename_i hr
                rw [hr, Nat.eq_of_beq_eq_true hq]
                exact ⟨_, rfl, q_hd hB⟩
              · cases hq
            · cases hz
          | return_ =>
            dsimp only at hz
            split at hz
            · injection hz with hz
              injection hz with z1 hz
              injection hz with z2 hz
              subst z1 z2
              refine ⟨hw, ?_⟩
              have hq : g.2.2.1.isNone = true := hq
              cases hr : g.2.2.1 with
              | none => rfl
              | some x => rw [hr] at hq; cases hq
            · cases hz
          | new _ => exact go hq hA2 (q_cons ⟨_, rfl, q_out hw⟩ hB) (q_app hw) hz
          | newarray ty =>
            dsimp only at hz
            split at hz
            · obtain ⟨-, hz⟩ := ez_bifN hz
              split at hz
              · exact go hq hA2 (q_cons ⟨_, rfl, q_out hw⟩ (q_tl hB)) (q_app hw) hz
              · exact go hq hA2 (q_cons ⟨_, rfl, q_out hw⟩ (q_tl hB)) (q_app hw) hz
              · cases hz
            · cases hz
          | invokevirtual _ =>
            obtain ⟨-, hz⟩ := ez_bif hz
            exact call hq hz
          | invokestatic _ =>
            have hq : (bif Nat.beq a 901 || Nat.beq a 902 then q_run sOK FT G g n false (pc + 3) A2 (0 :: B.drop 2) else q_goes G (q_run sOK FT G g n false) pc a b A2 B) = true := hq
            dsimp only at hz
            cases h1 : Nat.beq a 901 with
            | true =>
              rw [h1] at hq hz
              simp only [cond_true, Bool.true_or] at hq hz
              split at hz
              · obtain ⟨-, hz⟩ := ez_bif hz
                exact go hq hA2 (q_0 (q_tl2 hB)) hw hz
              · cases hz
            | false =>
              rw [h1] at hq hz
              simp only [cond_false, Bool.false_or] at hq hz
              cases h2 : Nat.beq a 902 with
              | true =>
                rw [h2] at hq hz
                simp only [cond_true] at hq hz
                split at hz
                · obtain ⟨-, hz⟩ := ez_bif hz
                  exact go hq hA2 (q_0 (q_tl2 hB)) hw hz
                · cases hz
              | false =>
                rw [h2] at hq hz
                simp only [cond_false] at hq hz
                exact call hq hz
          | invokespecial _ =>
            have hq : (bif Nat.beq a 900 then q_run sOK FT G g n false (pc + 3) A2 (B.drop 1) else q_goes G (q_run sOK FT G g n false) pc a b A2 B) = true := hq
            dsimp only at hz
            cases h1 : Nat.beq a 900 with
            | true =>
              rw [h1] at hq hz
              simp only [cond_true] at hq hz
              split at hz
              · obtain ⟨-, hz⟩ := ez_bif hz
                exact go hq hA2 (q_tl hB) hw hz
              · cases hz
            | false =>
              rw [h1] at hq hz
              simp only [cond_false] at hq hz
              obtain ⟨-, hz⟩ := ez_bif hz
              exact call hq hz
          | _ => exact gi hq hz
    intro g n first pc A B ls st h c k r h' c' k' hq ht hA hB hw hz
    cases n with
    | zero => cases hq
    | succ n =>
      cases first with
      | true => exact step g (n + 1) pc A B ls st h c k r h' c' k' hq ht hA hB hw hz
      | false =>
        cases hf : g.2.2.2.find? (fun e => Nat.beq e.1 pc) with
        | none =>
          refine step g (n + 1) pc A B ls st h c k r h' c' k' ?_ ht hA hB hw hz
          unfold q_run at hq ⊢
          simp only [cond_false, cond_true] at hq ⊢
          rw [hf] at hq
          exact hq
        | some e =>
          unfold q_run at hq
          simp only [cond_false] at hq
          rw [hf] at hq
          obtain ⟨q1, q2⟩ := Bool.and_eq_true_iff.mp hq
          have hm := List.mem_of_find?_eq_some hf
          have hp2 := List.find?_some hf
          have hp := Nat.eq_of_beq_eq_true hp2
          subst hp
          exact step g 300 e.1 e.2.1 e.2.2 ls st h c k r h' c' k' (List.all_eq_true.mp ht e hm) ht (q_le_s q1 hA) (q_le_s q2 hB) hw hz
/-- a method that is checked leaves the kept cells -/
theorem q_method (hS : ∀ p, sOK p = true → ¬ S p) (hG : ∀ g ∈ G, q_chk sOK FT G g = true ∨ q_given S FT h0 X g) {g : q_G} (hg : g ∈ G) {as : List Value} {h : ez_H} {N : Nat} (hw : q_W S FT h0 h) (ha : q_m S g.2.1 (ez_lay as)) (hc : q_chk sOK FT G g = true) : pe N X g.1 as h (fun r h' => q_W S FT h0 h' ∧ q_r S g.2.2.1 r) := by
  obtain ⟨t1, t2⟩ := Bool.and_eq_true_iff.mp hc
  exact fun F _ r h' c' k' hz => q_sound hS hG F g 300 true 0 g.2.1 [] _ _ _ _ _ _ _ _ _ t2 t1 ha q_nil hw hz
/-- from a told place on -/
theorem q_place (hS : ∀ p, sOK p = true → ¬ S p) (hG : ∀ g ∈ G, q_chk sOK FT G g = true ∨ q_given S FT h0 X g) {g : q_G} {pc : Nat} {A B : q_A} {ls st : List Value} {h : ez_H} {N : Nat} (hr : q_run sOK FT G g 300 true pc A B = true) (ht : q_tl_ok sOK FT G g = true) (hw : q_W S FT h0 h) (hA : q_m S A ls) (hB : q_m S B st) :
    pw N X g.1 pc ls st h (fun r h' => q_W S FT h0 h' ∧ q_r S g.2.2.1 r) :=
  fun c k F _ r h' c' k' hz => q_sound hS hG F g 300 true pc A B ls st h c k r h' c' k' hr ht hA hB hw hz
end
end
section
/-! What calls leave: the reference's all that is the class's; the class's, behind the layings, all that the layings rest on. -/
noncomputable def qm_FT : List (Nat × Nat × Nat) := [(35, 4, 38), (35, 5, 39), (35, 11, 40), (35, 12, 41), (35, 13, 42), (35, 15, 43), (35, 17, 44), (35, 18, 45), (35, 19, 46), (35, 20, 47), (35, 21, 48), (35, 22, 49), (35, 23, 50), (35, 25, 51), (35, 26, 52), (35, 27, 53), (35, 28, 54), (35, 29, 55), (35, 30, 56), (35, 31, 57), (35, 32, 58), (35, 33, 59), (35, 34, 60), (35, 35, 61), (35, 37, 62), (35, 38, 63), (35, 39, 64), (35, 40, 65), (35, 41, 66)]
noncomputable def qm_ok : Nat → Bool := fun p => Nat.ble 35 p && Nat.blt p 65
noncomputable def qm_g0 : q_G := (198, [], some 0, [(17, [], []), (18, [], [0])])
noncomputable def qm_g1 : q_G := (179, [37], some 0, [])
noncomputable def qm_g2 : q_G := (195, [37], some 0, [(28, [37], []), (31, [37], []), (69, [37], []), (90, [37], [])])
noncomputable def qm_g3 : q_G := (197, [], some 0, [(14, [], []), (15, [], [0])])
noncomputable def qm_g4 : q_G := (171, [], some 0, [(4, [], []), (23, [], [0]), (24, [], [0, 0]), (32, [], [])])
noncomputable def qm_g5 : q_G := (220, [37], some 0, [(33, [37], []), (36, [37], []), (46, [37], []), (57, [37], [])])
noncomputable def qm_g6 : q_G := (219, [37], some 0, [(28, [37], []), (55, [37], []), (84, [37], [])])
noncomputable def qm_g7 : q_G := (185, [37], some 0, [(24, [37], []), (27, [37], []), (37, [37], [])])
noncomputable def qm_g8 : q_G := (204, [37], some 0, [])
noncomputable def qm_g9 : q_G := (230, [], some 0, [(4, [], []), (32, [], []), (35, [], [0]), (45, [], []), (73, [], []), (85, [], []), (91, [], [])])
noncomputable def qm_g10 : q_G := (211, [37], some 0, [(6, [37], []), (80, [37], []), (132, [37], []), (134, [37], []), (151, [37], []), (157, [37], [])])
noncomputable def qm_g11 : q_G := (165, [37], some 0, [(6, [37], []), (31, [37], []), (113, [37], []), (162, [37], []), (179, [37], []), (185, [37], []), (191, [37], [])])
noncomputable def qm_g12 : q_G := (190, [37], none, [(15, [37], []), (29, [37], []), (31, [37], [0]), (35, [37], []), (57, [37], []), (89, [37], []), (121, [37], []), (154, [37], []), (158, [37], []), (159, [37], [0]), (164, [37], []), (210, [37], []), (233, [37], []), (239, [37], []), (245, [37], []), (255, [37], []), (301, [37], [])])
noncomputable def qm_g13 : q_G := (223, [37], some 0, [(11, [37], [])])
noncomputable def qm_g14 : q_G := (222, [37], some 0, [(12, [37], []), (50, [37], []), (53, [37], [0])])
noncomputable def qm_g15 : q_G := (167, [37], some 0, [(4, [37], []), (33, [37], []), (43, [37], []), (64, [37], []), (65, [37], [0]), (83, [37], []), (84, [37], [0]), (103, [37], []), (104, [37], [0]), (109, [37], []), (118, [37], []), (157, [37], []), (161, [37], []), (162, [37], [0]), (167, [37], []), (239, [37], []), (292, [37], []), (298, [37], []), (304, [37], []), (310, [37], [])])
noncomputable def qm_g16 : q_G := (206, [37], some 0, [(14, [37], []), (16, [37], [0])])
noncomputable def qm_g17 : q_G := (202, [37], some 0, [])
noncomputable def qm_g18 : q_G := (205, [37], some 0, [(11, [37], []), (21, [37], []), (42, [37], []), (44, [37], [0])])
noncomputable def qm_g19 : q_G := (200, [37], some 0, [])
noncomputable def qm_g20 : q_G := (175, [37], some 0, [(11, [37], []), (23, [37], [])])
noncomputable def qm_g21 : q_G := (218, [37], some 0, [(16, [37], []), (19, [37], []), (27, [37], []), (39, [37], [])])
noncomputable def qm_g22 : q_G := (199, [37], some 0, [])
noncomputable def qm_g23 : q_G := (166, [37], some 0, [(11, [37], []), (26, [37], [])])
noncomputable def qm_g24 : q_G := (209, [37], some 0, [(11, [37], []), (24, [37], [])])
noncomputable def qm_g25 : q_G := (168, [37], some 0, [(10, [37], [])])
noncomputable def qm_g26 : q_G := (215, [37], none, [(2, [37], []), (50, [37], [])])
noncomputable def qm_g27 : q_G := (221, [37], some 0, [(2, [37], []), (25, [37], []), (31, [37], [])])
noncomputable def qm_g28 : q_G := (176, [37], some 0, [(13, [37], []), (30, [37], []), (31, [37], [0]), (80, [37], []), (81, [37], [0])])
noncomputable def qm_g29 : q_G := (187, [37], some 0, [(15, [37], []), (44, [37], []), (92, [37], []), (126, [37], []), (160, [37], []), (194, [37], [])])
noncomputable def qm_g30 : q_G := (186, [37], none, [(15, [37], []), (22, [37], []), (63, [37], [0, 49]), (70, [37], [0, 0, 49]), (93, [37], []), (94, [37], [0]), (111, [37], []), (114, [37], []), (147, [37], [])])
noncomputable def qm_g31 : q_G := (192, [37], none, [(7, [37], []), (41, [37], []), (63, [37], [0, 50]), (64, [37], [0, 0, 50]), (81, [37], [0, 0, 50]), (82, [37], [0, 0, 0, 50]), (84, [37], []), (97, [37], []), (103, [37], [])])
noncomputable def qm_g32 : q_G := (229, [37], some 0, [(11, [37], []), (21, [37], []), (32, [37], [])])
noncomputable def qm_g33 : q_G := (208, [37], some 0, [(12, [37], []), (30, [37], []), (41, [37], []), (53, [37], [])])
noncomputable def qm_g34 : q_G := (233, [37], some 0, [(4, [37], []), (42, [37], [0]), (43, [37], [0, 0]), (51, [37], [])])
noncomputable def qm_g35 : q_G := (188, [37], some 0, [(9, [37], []), (16, [37], []), (56, [37], []), (90, [37], [0, 52]), (91, [37], [0, 0, 52]), (121, [37], [0, 53]), (122, [37], [0, 0, 53]), (129, [37], []), (139, [37], []), (145, [37], [])])
noncomputable def qm_g36 : q_G := (207, [37], some 0, [(14, [37], []), (16, [37], [0])])
noncomputable def qm_g37 : q_G := (232, [37], some 0, [(7, [37], []), (17, [37], []), (34, [37], []), (35, [37], [0])])
noncomputable def qm_g38 : q_G := (231, [37], none, [(2, [37], []), (48, [37], [])])
noncomputable def qm_g39 : q_G := (228, [37], some 0, [(4, [37], []), (31, [37], [0]), (32, [37], [0, 0]), (40, [37], [])])
noncomputable def qm_g40 : q_G := (227, [37], some 0, [(11, [37], []), (26, [37], []), (28, [37], [0])])
noncomputable def qm_g41 : q_G := (225, [37], some 0, [(14, [37], []), (25, [37], []), (30, [37], []), (57, [37], [0, 0]), (58, [37], [0, 0, 0]), (68, [37], [0]), (69, [37], [0, 0]), (77, [37], [])])
noncomputable def qm_g42 : q_G := (193, [37], some 0, [(23, [37], []), (53, [37], []), (62, [37], []), (63, [37], [0]), (75, [37], [0]), (76, [37], [0, 0]), (77, [37], [0]), (96, [37], []), (120, [37], []), (126, [37], [0]), (146, [37], []), (147, [37], [0])])
noncomputable def qm_g43 : q_G := (214, [37], some 0, [(11, [37], []), (26, [37], []), (36, [37], [])])
noncomputable def qm_g44 : q_G := (169, [37], some 0, [(13, [37], []), (23, [37], []), (32, [37], []), (44, [37], []), (73, [37], []), (74, [37], [0]), (86, [37], []), (87, [37], [0]), (94, [37], []), (102, [37], []), (103, [37], [0])])
noncomputable def qm_g45 : q_G := (194, [37], some 0, [(23, [37], []), (68, [37], []), (92, [37], []), (98, [37], [0]), (118, [37], []), (119, [37], [0])])
noncomputable def qm_g46 : q_G := (170, [37], some 0, [(15, [37], []), (25, [37], []), (34, [37], []), (49, [37], []), (104, [37], []), (107, [37], []), (122, [37], []), (158, [37], []), (164, [37], []), (170, [37], []), (178, [37], []), (187, [37], []), (189, [37], [0])])
noncomputable def qm_g47 : q_G := (201, [37], some 0, [(17, [37], []), (21, [37], []), (22, [37], [0])])
noncomputable def qm_g48 : q_G := (216, [37], some 0, [(3, [37], []), (75, [37], []), (76, [37], [0]), (95, [37], []), (96, [37], [0]), (97, [37], []), (103, [37], [])])
noncomputable def qm_g49 : q_G := (213, [37], some 0, [(7, [37], []), (25, [37], []), (41, [37], []), (42, [37], [0]), (44, [37], []), (60, [37], []), (93, [37], []), (128, [37], []), (152, [37], []), (158, [37], [0]), (180, [37], []), (182, [37], [0]), (196, [37], []), (198, [37], [0]), (212, [37], []), (214, [37], [0]), (222, [37], []), (232, [37], []), (233, [37], [0]), (256, [37], []), (298, [37], []), (304, [37], []), (344, [37], []), (345, [37], [0]), (347, [37], []), (350, [37], [])])
noncomputable def qm_g50 : q_G := (212, [37], some 0, [(10, [37], []), (26, [37], []), (28, [37], [0])])
noncomputable def qm_g51 : q_G := (178, [37], some 0, [(7, [37], []), (17, [37], []), (28, [37], []), (46, [37], []), (47, [37], [0])])
noncomputable def qm_g52 : q_G := (177, [37], some 0, [(11, [37], []), (44, [37], []), (79, [37], []), (103, [37], []), (109, [37], [0]), (131, [37], []), (133, [37], [0]), (147, [37], []), (149, [37], [0]), (163, [37], []), (165, [37], [0]), (173, [37], [])])
noncomputable def qm_g53 : q_G := (189, [37], none, [(2, [37], []), (30, [37], []), (56, [37], []), (107, [37], []), (120, [37], []), (163, [37], []), (169, [37], []), (208, [37], []), (214, [37], []), (217, [37], []), (259, [37], []), (262, [37], [])])
noncomputable def qm_g54 : q_G := (196, [37], some 0, [(15, [37], []), (25, [37], []), (39, [37], []), (75, [37], []), (76, [37], [0]), (88, [37], []), (89, [37], [0]), (96, [37], []), (104, [37], []), (113, [37], []), (124, [37], []), (126, [37], [0])])
noncomputable def qm_g55 : q_G := (224, [37], some 0, [(10, [37], []), (14, [37], []), (44, [37], []), (82, [37], []), (83, [37], [0]), (90, [37], []), (99, [37], []), (100, [37], [0]), (107, [37], []), (131, [37], []), (143, [37], []), (144, [37], [0])])
noncomputable def qm_g56 : q_G := (173, [37], some 0, [(4, [37], []), (36, [37], []), (40, [37], []), (41, [37], [0]), (48, [37], [])])
noncomputable def qm_g57 : q_G := (172, [37], some 0, [(14, [37], []), (16, [37], [0])])
noncomputable def qm_g58 : q_G := (174, [37], some 0, [(10, [37], []), (17, [37], []), (47, [37], []), (92, [37], [0]), (93, [37], [0, 0]), (101, [37], []), (103, [37], []), (109, [37], [])])
noncomputable def qm_g59 : q_G := (184, [37], some 0, [(27, [37], []), (28, [37], [0]), (33, [37], []), (78, [37], []), (82, [37], []), (83, [37], [0]), (91, [37], [])])
noncomputable def qm_g60 : q_G := (226, [37], some 0, [(13, [37], []), (23, [37], []), (27, [37], []), (64, [37], []), (105, [37], []), (106, [37], [0]), (123, [37], [0, 65]), (129, [37], [0, 0, 65]), (158, [37], [0, 64]), (164, [37], [0, 0, 64]), (171, [37], []), (185, [37], []), (189, [37], []), (190, [37], [0]), (197, [37], []), (204, [37], []), (206, [37], []), (217, [37], []), (229, [37], []), (241, [37], []), (293, [37], []), (295, [37], [0]), (296, [37], []), (302, [37], []), (308, [37], []), (314, [37], []), (320, [37], [])])
noncomputable def qm_g61 : q_G := (203, [37], some 0, [])
noncomputable def qm_g62 : q_G := (182, [37], some 0, [(11, [37], []), (26, [37], []), (48, [37], [0, 63]), (49, [37], [0, 0, 63])])
noncomputable def qm_g63 : q_G := (180, [37], some 0, [(5, [37], []), (46, [37], [])])
noncomputable def qm_g64 : q_G := (183, [37], some 0, [(6, [37], []), (38, [37], []), (42, [37], []), (62, [37], []), (63, [37], [0]), (85, [37], [0]), (86, [37], [0, 0]), (95, [37], [])])
noncomputable def qm_g65 : q_G := (217, [37], some 0, [(11, [37], []), (21, [37], []), (42, [37], []), (44, [37], [0])])
noncomputable def qm_g66 : q_G := (191, [37], some 0, [(10, [37], []), (14, [37], []), (34, [37], []), (81, [37], []), (85, [37], []), (86, [37], [0]), (94, [37], []), (104, [37], [0]), (105, [37], [0, 0]), (113, [37], [])])
noncomputable def qm_g67 : q_G := (181, [37], some 0, [(10, [37], []), (21, [37], []), (33, [37], []), (68, [37], []), (120, [37], [0, 0, 66]), (121, [37], [0, 0, 0, 66]), (129, [37], []), (132, [37], []), (138, [37], []), (144, [37], []), (181, [37], []), (187, [37], []), (216, [37], []), (217, [37], [0]), (225, [37], []), (235, [37], []), (237, [37], [0]), (239, [37], []), (245, [37], [])])
noncomputable def qm_g68 : q_G := (210, [37], some 0, [(36, [37], []), (41, [37], []), (46, [37], []), (51, [37], []), (53, [37], []), (76, [37], [0]), (77, [37], [0, 0]), (85, [37], []), (87, [37], []), (89, [37], []), (117, [37], [0]), (118, [37], [0, 0]), (126, [37], []), (128, [37], [])])
noncomputable def qm_G : List q_G := [qm_g0, qm_g1, qm_g2, qm_g3, qm_g4, qm_g5, qm_g6, qm_g7, qm_g8, qm_g9, qm_g10, qm_g11, qm_g12, qm_g13, qm_g14, qm_g15, qm_g16, qm_g17, qm_g18, qm_g19, qm_g20, qm_g21, qm_g22, qm_g23, qm_g24, qm_g25, qm_g26, qm_g27, qm_g28, qm_g29, qm_g30, qm_g31, qm_g32, qm_g33, qm_g34, qm_g35, qm_g36, qm_g37, qm_g38, qm_g39, qm_g40, qm_g41, qm_g42, qm_g43, qm_g44, qm_g45, qm_g46, qm_g47, qm_g48, qm_g49, qm_g50, qm_g51, qm_g52, qm_g53, qm_g54, qm_g55, qm_g56, qm_g57, qm_g58, qm_g59, qm_g60, qm_g61, qm_g62, qm_g63, qm_g64, qm_g65, qm_g66, qm_g67, qm_g68]
noncomputable def qh_FT : List (Nat × Nat × Nat) := [(0, 0, 3), (0, 1, 5), (0, 2, 8), (0, 3, 10), (0, 4, 12), (0, 5, 15), (0, 6, 22), (0, 7, 24), (0, 8, 33), (0, 9, 34), (1, 0, 4), (3, 0, 3), (3, 1, 6), (3, 2, 7), (6, 0, 3), (6, 1, 5), (8, 0, 11), (10, 0, 3), (10, 1, 5), (10, 2, 8), (10, 3, 10), (10, 4, 13), (10, 5, 14), (13, 0, 3), (13, 1, 8), (13, 2, 10), (13, 3, 12), (13, 4, 16), (13, 5, 1), (13, 6, 1), (13, 7, 1), (14, 0, 17), (14, 1, 18), (20, 0, 8), (20, 1, 15), (20, 2, 23), (22, 0, 3), (22, 1, 5), (22, 2, 8), (22, 3, 25), (22, 4, 1), (22, 5, 29), (22, 6, 30), (22, 7, 31), (22, 9, 32), (23, 0, 26), (23, 1, 27), (31, 0, 5), (31, 1, 8), (31, 2, 10), (31, 3, 15), (32, 0, 3), (32, 1, 8), (32, 2, 35), (32, 3, 36)]
noncomputable def qh_ok : Nat → Bool := fun p => (Nat.ble 11 p && Nat.ble p 31) || Nat.beq p 34
noncomputable def qh_g0 : q_G := (55, [], some 0, [(14, [], []), (15, [], [0])])
noncomputable def qh_g1 : q_G := (23, [2], some 0, [])
noncomputable def qh_g2 : q_G := (3, [], some 0, [(16, [], []), (17, [], [0])])
noncomputable def qh_g3 : q_G := (138, [8], some 0, [])
noncomputable def qh_g4 : q_G := (45, [], some 0, [])
noncomputable def qh_g5 : q_G := (87, [5], some 0, [(42, [5], []), (43, [5], [0])])
noncomputable def qh_g6 : q_G := (39, [13], none, [(14, [13], [])])
noncomputable def qh_g7 : q_G := (39, [14], none, [(14, [14], [])])
noncomputable def qh_g8 : q_G := (4, [11], some 0, [(16, [11], []), (17, [11], [0])])
noncomputable def qh_g9 : q_G := (124, [10], some 0, [])
noncomputable def qh_g10 : q_G := (4, [13], some 0, [(16, [13], []), (17, [13], [0])])
noncomputable def qh_g11 : q_G := (4, [14], some 0, [(16, [14], []), (17, [14], [0])])
noncomputable def qh_g12 : q_G := (237, [], some 0, [])
noncomputable def qh_g13 : q_G := (3, [4], some 0, [(16, [4], []), (17, [4], [0])])
noncomputable def qh_g14 : q_G := (152, [3], some 0, [])
noncomputable def qh_g15 : q_G := (130, [12], some 0, [(8, [12], []), (97, [12], [0]), (98, [12], [0, 0]), (101, [12], []), (107, [12], []), (119, [12], []), (120, [12], [0]), (148, [12], []), (149, [12], [0])])
noncomputable def qh_g16 : q_G := (147, [3], some 0, [(6, [3], []), (18, [3], [0]), (22, [3], [0, 0]), (37, [3], []), (38, [3], [0]), (65, [3], [])])
noncomputable def qh_g17 : q_G := (148, [3], some 0, [(6, [3], []), (41, [3], [0]), (42, [3], [0, 0]), (49, [3], []), (69, [3], [0]), (70, [3], [0, 0])])
noncomputable def qh_g18 : q_G := (132, [12], some 0, [(24, [12], [])])
noncomputable def qh_g19 : q_G := (131, [12], none, [(65, [12], [])])
noncomputable def qh_g20 : q_G := (135, [12], some 0, [(12, [12], []), (53, [12], []), (73, [12], []), (77, [12], []), (78, [12], [0]), (86, [12], []), (136, [12], []), (142, [12], [])])
noncomputable def qh_g21 : q_G := (133, [12], some 0, [])
noncomputable def qh_g22 : q_G := (19, [], some 0, [])
noncomputable def qh_g23 : q_G := (108, [15], none, [(49, [15], [])])
noncomputable def qh_g24 : q_G := (39, [1], none, [(14, [1], [])])
noncomputable def qh_g25 : q_G := (129, [12], some 0, [])
noncomputable def qh_g26 : q_G := (36, [], some 0, [(12, [], []), (13, [], [0])])
noncomputable def qh_g27 : q_G := (134, [12], some 0, [(4, [12], []), (42, [12], [])])
noncomputable def qh_g28 : q_G := (112, [15], none, [(8, [15], []), (35, [15], []), (36, [15], [0]), (39, [15], []), (107, [15], [0, 1]), (108, [15], [0, 0, 1]), (117, [15], [])])
noncomputable def qh_g29 : q_G := (38, [17], none, [(14, [17], [])])
noncomputable def qh_g30 : q_G := (38, [18], none, [(14, [18], [])])
noncomputable def qh_g31 : q_G := (159, [16], none, [(7, [16], []), (37, [16], [])])
noncomputable def qh_g32 : q_G := (4, [1], some 0, [(16, [1], []), (17, [1], [0])])
noncomputable def qh_g33 : q_G := (113, [15], some 0, [])
noncomputable def qh_g34 : q_G := (109, [15], some 0, [(23, [15], []), (24, [15], [0])])
noncomputable def qh_g35 : q_G := (236, [], some 0, [(17, [], []), (34, [], []), (49, [], []), (62, [], []), (74, [], [])])
noncomputable def qh_g36 : q_G := (239, [], some 0, [(21, [], []), (25, [], [0])])
noncomputable def qh_g37 : q_G := (3, [17], some 0, [(16, [17], []), (17, [17], [0])])
noncomputable def qh_g38 : q_G := (160, [17], none, [(5, [17], []), (50, [17], [])])
noncomputable def qh_g39 : q_G := (3, [18], some 0, [(16, [18], []), (17, [18], [0])])
noncomputable def qh_g40 : q_G := (160, [18], none, [(5, [18], []), (50, [18], [])])
noncomputable def qh_g41 : q_G := (156, [16], none, [])
noncomputable def qh_g42 : q_G := (105, [15], none, [(8, [15], []), (17, [15], []), (59, [15], []), (65, [15], [])])
noncomputable def qh_g43 : q_G := (30, [2], some 16, [])
noncomputable def qh_g44 : q_G := (110, [15], some 0, [(4, [15], []), (30, [15], []), (33, [15], []), (39, [15], [])])
noncomputable def qh_g45 : q_G := (163, [16], some 0, [])
noncomputable def qh_g46 : q_G := (158, [16], some 0, [(5, [16], []), (31, [16], []), (37, [16], [])])
noncomputable def qh_g47 : q_G := (162, [16], some 0, [(18, [16], []), (43, [16], []), (51, [16], [0])])
noncomputable def qh_g48 : q_G := (161, [16], some 0, [])
noncomputable def qh_g49 : q_G := (157, [16], some 0, [(4, [16], []), (24, [16], []), (30, [16], [])])
noncomputable def qh_g50 : q_G := (111, [15], some 0, [])
noncomputable def qh_g51 : q_G := (3, [23], some 0, [(16, [23], []), (17, [23], [0])])
noncomputable def qh_g52 : q_G := (38, [23], none, [(14, [23], [])])
noncomputable def qh_g53 : q_G := (116, [22], none, [(5, [22], []), (36, [22], []), (98, [22], []), (104, [22], [])])
noncomputable def qh_g54 : q_G := (115, [22], none, [(2, [22], []), (24, [22], []), (26, [22], []), (60, [22], []), (66, [22], [])])
noncomputable def qh_g55 : q_G := (118, [22, 16], some 0, [])
noncomputable def qh_g56 : q_G := (119, [22, 16], none, [(8, [22, 16], []), (24, [22, 16], []), (34, [22, 16], []), (76, [22, 16], []), (82, [22, 16], []), (88, [22, 16], [])])
noncomputable def qh_g57 : q_G := (38, [1], none, [(14, [1], [])])
noncomputable def qh_g58 : q_G := (66, [24], none, [(32, [24], []), (34, [24], []), (54, [24], [])])
noncomputable def qh_g59 : q_G := (38, [30], none, [(14, [30], [])])
noncomputable def qh_g60 : q_G := (39, [31], none, [(14, [31], [])])
noncomputable def qh_g61 : q_G := (38, [29], none, [(14, [29], [])])
noncomputable def qh_g62 : q_G := (3, [29], some 0, [(16, [29], []), (17, [29], [0])])
noncomputable def qh_g63 : q_G := (3, [1], some 0, [(16, [1], []), (17, [1], [0])])
noncomputable def qh_g64 : q_G := (4, [31], some 0, [(16, [31], []), (17, [31], [0])])
noncomputable def qh_g65 : q_G := (38, [26], none, [(14, [26], [])])
noncomputable def qh_g66 : q_G := (38, [27], none, [(14, [27], [])])
noncomputable def qh_g67 : q_G := (159, [25], none, [(7, [25], []), (37, [25], [])])
noncomputable def qh_g68 : q_G := (137, [8], some 0, [])
noncomputable def qh_g69 : q_G := (68, [24], some 0, [(13, [24], []), (29, [24], []), (66, [24], [])])
noncomputable def qh_g70 : q_G := (3, [26], some 0, [(16, [26], []), (17, [26], [0])])
noncomputable def qh_g71 : q_G := (160, [26], none, [(5, [26], []), (50, [26], [])])
noncomputable def qh_g72 : q_G := (3, [27], some 0, [(16, [27], []), (17, [27], [0])])
noncomputable def qh_g73 : q_G := (160, [27], none, [(5, [27], []), (50, [27], [])])
noncomputable def qh_g74 : q_G := (156, [25], none, [])
noncomputable def qh_g75 : q_G := (162, [25], some 0, [(18, [25], []), (43, [25], []), (51, [25], [0])])
noncomputable def qh_g76 : q_G := (161, [25], some 0, [])
noncomputable def qh_g77 : q_G := (157, [25], some 0, [(4, [25], []), (24, [25], []), (30, [25], [])])
noncomputable def qh_g78 : q_G := (61, [24], some 0, [(9, [24], []), (19, [24], []), (65, [24], []), (101, [24], []), (102, [24], [0])])
noncomputable def qh_g79 : q_G := (58, [24], some 0, [(19, [24], []), (38, [24], []), (39, [24], [0])])
noncomputable def qh_g80 : q_G := (49, [1], none, [])
noncomputable def qh_g81 : q_G := (63, [24], some 0, [(6, [24], []), (47, [24], []), (53, [24], [])])
noncomputable def qh_g82 : q_G := (3, [30], some 0, [(16, [30], []), (17, [30], [0])])
noncomputable def qh_g83 : q_G := (59, [24], none, [(14, [24], [])])
noncomputable def qh_g84 : q_G := (69, [24], some 0, [(33, [24], []), (61, [24], []), (119, [24], [])])
noncomputable def qh_g85 : q_G := (67, [24], none, [(22, [24], []), (23, [24], []), (29, [24], []), (58, [24], []), (71, [24], []), (106, [24], []), (112, [24], [])])
noncomputable def qh_g86 : q_G := (65, [24], some 0, [])
noncomputable def qh_g87 : q_G := (38, [32], none, [(14, [32], [])])
noncomputable def qh_g88 : q_G := (70, [24], none, [(9, [24], []), (36, [24], []), (59, [24], []), (109, [24], [])])
noncomputable def qh_g89 : q_G := (3, [32], some 0, [(16, [32], []), (17, [32], [0])])
noncomputable def qh_g90 : q_G := (60, [24], some 0, [(19, [24], []), (20, [24], [0])])
noncomputable def qh_g91 : q_G := (57, [24], some 0, [(4, [24], []), (32, [24], [])])
noncomputable def qh_g92 : q_G := (64, [24], some 0, [(4, [24], []), (36, [24], []), (42, [24], [])])
noncomputable def qh_g93 : q_G := (97, [], some 0, [])
noncomputable def qh_g94 : q_G := (98, [33], some 0, [(28, [33], []), (38, [33], [0]), (39, [33], []), (43, [33], []), (67, [33], []), (83, [33], [])])
noncomputable def qh_g95 : q_G := (100, [33], some 0, [(16, [33], []), (48, [33], []), (54, [33], [])])
noncomputable def qh_g96 : q_G := (103, [33], some 0, [(15, [33], []), (44, [33], []), (50, [33], [])])
noncomputable def qh_g97 : q_G := (102, [33], some 0, [(27, [33], []), (28, [33], [0])])
noncomputable def qh_g98 : q_G := (235, [], some 0, [(13, [], []), (14, [], [0]), (15, [], []), (33, [], []), (48, [], []), (61, [], []), (73, [], [])])
noncomputable def qh_g99 : q_G := (238, [], some 0, [(21, [], []), (25, [], [0])])
noncomputable def qh_g100 : q_G := (99, [], some 0, [])
noncomputable def qh_g101 : q_G := (96, [33], some 0, [(25, [33], []), (65, [33], []), (66, [33], [0]), (91, [33], []), (97, [33], [])])
noncomputable def qh_g102 : q_G := (101, [33], none, [(20, [33], []), (33, [33], []), (70, [33], []), (74, [33], []), (75, [33], [0]), (105, [33], []), (111, [33], []), (117, [33], [])])
noncomputable def qh_g103 : q_G := (150, [3], some 0, [(24, [3], [])])
noncomputable def qh_g104 : q_G := (73, [34], some 0, [])
noncomputable def qh_g105 : q_G := (151, [3], some 0, [])
noncomputable def qh_g106 : q_G := (3, [35], some 0, [(16, [35], []), (17, [35], [0])])
noncomputable def qh_g107 : q_G := (75, [34], some 0, [(11, [34], []), (48, [34], []), (54, [34], [])])
noncomputable def qh_g108 : q_G := (76, [34], some 0, [(12, [34], []), (35, [34], []), (41, [34], [])])
noncomputable def qh_g109 : q_G := (83, [34], some 0, [(15, [34], []), (48, [34], []), (54, [34], [])])
noncomputable def qh_g110 : q_G := (4, [36], some 0, [(16, [36], []), (17, [36], [0])])
noncomputable def qh_g111 : q_G := (39, [36], none, [(14, [36], [])])
noncomputable def qh_g112 : q_G := (77, [34], none, [])
noncomputable def qh_g113 : q_G := (79, [34], none, [(2, [34], []), (24, [34], []), (45, [34], []), (81, [34], []), (87, [34], [])])
noncomputable def qh_g114 : q_G := (78, [34], some 0, [(27, [34], []), (28, [34], [0])])
noncomputable def qh_g115 : q_G := (80, [34], none, [(2, [34], []), (15, [34], []), (45, [34], []), (51, [34], []), (57, [34], [])])
noncomputable def qh_g116 : q_G := (234, [], some 0, [])
noncomputable def qh_g117 : q_G := (74, [34], some 0, [(25, [34], []), (48, [34], []), (52, [34], []), (53, [34], [0]), (76, [34], []), (82, [34], [])])
noncomputable def qh_G : List q_G := [qh_g0, qh_g1, qh_g2, qh_g3, qh_g4, qh_g5, qh_g6, qh_g7, qh_g8, qh_g9, qh_g10, qh_g11, qh_g12, qh_g13, qh_g14, qh_g15, qh_g16, qh_g17, qh_g18, qh_g19, qh_g20, qh_g21, qh_g22, qh_g23, qh_g24, qh_g25, qh_g26, qh_g27, qh_g28, qh_g29, qh_g30, qh_g31, qh_g32, qh_g33, qh_g34, qh_g35, qh_g36, qh_g37, qh_g38, qh_g39, qh_g40, qh_g41, qh_g42, qh_g43, qh_g44, qh_g45, qh_g46, qh_g47, qh_g48, qh_g49, qh_g50, qh_g51, qh_g52, qh_g53, qh_g54, qh_g55, qh_g56, qh_g57, qh_g58, qh_g59, qh_g60, qh_g61, qh_g62, qh_g63, qh_g64, qh_g65, qh_g66, qh_g67, qh_g68, qh_g69, qh_g70, qh_g71, qh_g72, qh_g73, qh_g74, qh_g75, qh_g76, qh_g77, qh_g78, qh_g79, qh_g80, qh_g81, qh_g82, qh_g83, qh_g84, qh_g85, qh_g86, qh_g87, qh_g88, qh_g89, qh_g90, qh_g91, qh_g92, qh_g93, qh_g94, qh_g95, qh_g96, qh_g97, qh_g98, qh_g99, qh_g100, qh_g101, qh_g102, qh_g103, qh_g104, qh_g105, qh_g106, qh_g107, qh_g108, qh_g109, qh_g110, qh_g111, qh_g112, qh_g113, qh_g114, qh_g115, qh_g116, qh_g117]
noncomputable def qo_layings : q_G := (27, [2], some 0, [(12, [2], []), (19, [2], [0])])
noncomputable def qo_laid : q_G := (26, [2], some 0, [(21, [2], []), (44, [2], []), (46, [2], [0])])
noncomputable def qo_truth : q_G := (53, [2], some 0, [(21, [2], []), (32, [2], [])])
noncomputable def qo_lies : q_G := (31, [2], some 0, [(42, [2], []), (54, [2], [])])
noncomputable def qo_left : q_G := (29, [2], some 0, [(12, [2], []), (19, [2], [0])])
noncomputable def qo_which : q_G := (54, [2], some 0, [(17, [2], [])])
noncomputable def qo_there : q_G := (51, [2], some 0, [(23, [2], []), (31, [2], [0])])
noncomputable def qo_sure : q_G := (48, [2], some 0, [(24, [2], []), (41, [2, 0, 16], [16]), (42, [2, 0, 16], [0, 16])])
noncomputable def qo_part : q_G := (37, [2], some 0, [(35, [2], []), (44, [2], [0])])
noncomputable def qo_best : q_G := (6, [2], some 0, [(22, [2], []), (36, [2, 0, 16], []), (56, [2, 0, 16], []), (61, [2, 0, 16], [0])])
noncomputable def qo_bestSalvo : q_G := (7, [2], some 0, [(22, [2], []), (36, [2, 0, 16], []), (65, [2, 0, 16], []), (80, [2, 0, 16], []), (87, [2, 0, 16], [0])])
noncomputable def qo_need : q_G := (34, [2], some 0, [(10, [2], []), (21, [2], [])])
noncomputable def qo_calls : q_G := (11, [2], some 0, [(17, [2], []), (28, [2], [])])
noncomputable def qo_hardest : q_G := (20, [2], some 0, [(22, [2], []), (34, [2], []), (54, [2], []), (70, [2], []), (78, [2], [0])])
noncomputable def qo_stray : q_G := (47, [2], some 0, [(10, [2], [])])
noncomputable def qo_blame : q_G := (8, [2], some 0, [(10, [2], []), (34, [2], []), (45, [2], [0])])
noncomputable def qo_blamed : q_G := (9, [2], some 0, [(10, [2], []), (34, [2], []), (42, [2], [0])])
noncomputable def qo_switched : q_G := (50, [2], some 0, [(22, [2], []), (42, [2], []), (63, [2], []), (70, [2], [0])])
noncomputable def qo_rim : q_G := (40, [2], some 0, [(21, [2], []), (48, [2], []), (50, [2], [0])])
noncomputable def qo_fitting : q_G := (17, [2], some 0, [(12, [2], []), (19, [2], [0])])
noncomputable def qo_clues : q_G := (13, [2], some 0, [(10, [2], []), (29, [2], []), (31, [2], [0])])
set_option maxRecDepth 1000000 in
theorem qm_c : (qm_G.all fun g => q_chk qm_ok qm_FT qm_G g) = true := by decide +kernel
set_option maxRecDepth 1000000 in
theorem qh_c : (qh_G.all fun g => q_chk qh_ok qh_FT qh_G g) = true := by decide +kernel
set_option maxRecDepth 1000000 in
theorem qo_layings_c : (q_tl_ok qh_ok qh_FT qh_G qo_layings && q_run qh_ok qh_FT qh_G qo_layings 300 true 4 [2] [0]) = true := by decide +kernel
set_option maxRecDepth 1000000 in
theorem qo_laid_c : (q_tl_ok qh_ok qh_FT qh_G qo_laid && q_run qh_ok qh_FT qh_G qo_laid 300 true 15 [2] [0]) = true := by decide +kernel
set_option maxRecDepth 1000000 in
theorem qo_truth_c : (q_tl_ok qh_ok qh_FT qh_G qo_truth && q_run qh_ok qh_FT qh_G qo_truth 300 true 15 [2] [0]) = true := by decide +kernel
set_option maxRecDepth 1000000 in
theorem qo_lies_c : (q_tl_ok qh_ok qh_FT qh_G qo_lies && q_run qh_ok qh_FT qh_G qo_lies 300 true 35 [2] [0]) = true := by decide +kernel
set_option maxRecDepth 1000000 in
theorem qo_left_c : (q_tl_ok qh_ok qh_FT qh_G qo_left && q_run qh_ok qh_FT qh_G qo_left 300 true 4 [2] [0]) = true := by decide +kernel
set_option maxRecDepth 1000000 in
theorem qo_which_c : (q_tl_ok qh_ok qh_FT qh_G qo_which && q_run qh_ok qh_FT qh_G qo_which 300 true 11 [2] [0]) = true := by decide +kernel
set_option maxRecDepth 1000000 in
theorem qo_there_c : (q_tl_ok qh_ok qh_FT qh_G qo_there && q_run qh_ok qh_FT qh_G qo_there 300 true 15 [2] [0]) = true := by decide +kernel
set_option maxRecDepth 1000000 in
theorem qo_sure_c : (q_tl_ok qh_ok qh_FT qh_G qo_sure && q_run qh_ok qh_FT qh_G qo_sure 300 true 17 [2] [0]) = true := by decide +kernel
set_option maxRecDepth 1000000 in
theorem qo_part_c : (q_tl_ok qh_ok qh_FT qh_G qo_part && q_run qh_ok qh_FT qh_G qo_part 300 true 27 [2] [0]) = true := by decide +kernel
set_option maxRecDepth 1000000 in
theorem qo_best_c : (q_tl_ok qh_ok qh_FT qh_G qo_best && q_run qh_ok qh_FT qh_G qo_best 300 true 16 [2] [0]) = true := by decide +kernel
set_option maxRecDepth 1000000 in
theorem qo_bestSalvo_c : (q_tl_ok qh_ok qh_FT qh_G qo_bestSalvo && q_run qh_ok qh_FT qh_G qo_bestSalvo 300 true 16 [2] [0]) = true := by decide +kernel
set_option maxRecDepth 1000000 in
theorem qo_need_c : (q_tl_ok qh_ok qh_FT qh_G qo_need && q_run qh_ok qh_FT qh_G qo_need 300 true 4 [2] [0]) = true := by decide +kernel
set_option maxRecDepth 1000000 in
theorem qo_calls_c : (q_tl_ok qh_ok qh_FT qh_G qo_calls && q_run qh_ok qh_FT qh_G qo_calls 300 true 11 [2] [0]) = true := by decide +kernel
set_option maxRecDepth 1000000 in
theorem qo_hardest_c : (q_tl_ok qh_ok qh_FT qh_G qo_hardest && q_run qh_ok qh_FT qh_G qo_hardest 300 true 16 [2] [0]) = true := by decide +kernel
set_option maxRecDepth 1000000 in
theorem qo_stray_c : (q_tl_ok qh_ok qh_FT qh_G qo_stray && q_run qh_ok qh_FT qh_G qo_stray 300 true 4 [2] [0]) = true := by decide +kernel
set_option maxRecDepth 1000000 in
theorem qo_blame_c : (q_tl_ok qh_ok qh_FT qh_G qo_blame && q_run qh_ok qh_FT qh_G qo_blame 300 true 4 [2] [0]) = true := by decide +kernel
set_option maxRecDepth 1000000 in
theorem qo_blamed_c : (q_tl_ok qh_ok qh_FT qh_G qo_blamed && q_run qh_ok qh_FT qh_G qo_blamed 300 true 4 [2] [0]) = true := by decide +kernel
set_option maxRecDepth 1000000 in
theorem qo_switched_c : (q_tl_ok qh_ok qh_FT qh_G qo_switched && q_run qh_ok qh_FT qh_G qo_switched 300 true 16 [2] [0]) = true := by decide +kernel
set_option maxRecDepth 1000000 in
theorem qo_rim_c : (q_tl_ok qh_ok qh_FT qh_G qo_rim && q_run qh_ok qh_FT qh_G qo_rim 300 true 15 [2] [0]) = true := by decide +kernel
set_option maxRecDepth 1000000 in
theorem qo_fitting_c : (q_tl_ok qh_ok qh_FT qh_G qo_fitting && q_run qh_ok qh_FT qh_G qo_fitting 300 true 4 [2] [0]) = true := by decide +kernel
set_option maxRecDepth 1000000 in
theorem qo_clues_c : (q_tl_ok qh_ok qh_FT qh_G qo_clues && q_run qh_ok qh_FT qh_G qo_clues 300 true 4 [2] [0]) = true := by decide +kernel
end
section
/-! Cells about a set: the class's way, by whole rows and columns, and the reference's, cell by cell. -/
noncomputable def us (z : Int64) (n : Int32) : Int64 := (z.toUInt64 >>> (n.toInt64.toUInt64 &&& Int64.toUInt64 63)).toInt64
noncomputable def sl (z : Int64) (n : Int32) : Int64 := z <<< (n.toInt64 &&& (63 : Int64))
noncomputable def xm (z m : Int64) : Int64 := z ^^^ (z &&& m)
noncomputable def ma (W wr : Int32) (fc lc z : Int64) (s : Int32) : Int64 := if s = 0 then z else if s ≤ 0 then us (xm z fc) 1 ||| sl (if wr = 0 then 0 else z &&& fc) (W - 1) else sl (xm z lc) 1 ||| us (if wr = 0 then 0 else z &&& lc) (W - 1)
noncomputable def md (W wr C : Int32) (al z : Int64) (s : Int32) : Int64 := if s = 0 then z else if s ≤ 0 then (us z W ||| (if wr = 0 then 0 else sl z (C - W))) &&& al else (sl z W ||| (if wr = 0 then 0 else us z (C - W))) &&& al
section
variable {N : Nat} {X : ez_X} {I : Nat → Nat → Int32} {J : Nat → Nat → Int64} {R : Nat → Nat} {T : List ez_C} {Q : pw_Q} {cz kz : Nat}
set_option maxRecDepth 100000 in
theorem mv1_r0 {a0 : Int64} {a1 : Int32} : ∀ G : ez_F, fx_up X 2 G 147 0 [.ref 1, .long a0, ez_fill, .int a1] [] (ev_hp I J R T) cz kz = bif decide (¬ a1 = (0 : Int32)) then G 147 6 [.ref 1, .long a0, ez_fill, .int a1] [] (ev_hp I J R T) cz kz else G 147 4 [.ref 1, .long a0, ez_fill, .int a1] [] (ev_hp I J R T) cz kz := by
  intro G
  rfl
set_option maxRecDepth 100000 in
theorem mv1_r1 {a0 : Int64} {a1 : Int32} : ∀ G : ez_F, fx_up X 3 G 147 6 [.ref 1, .long a0, ez_fill, .int a1] [] (ev_hp I J R T) cz kz = bif decide (a1 ≤ (0 : Int32)) then G 147 18 [.ref 1, .long a0, ez_fill, .int a1] [.long a0] (ev_hp I J R T) cz kz else G 147 11 [.ref 1, .long a0, ez_fill, .int a1] [.long a0] (ev_hp I J R T) cz kz := by
  intro G
  rfl
set_option maxRecDepth 100000 in
theorem mv1_r2 {a0 : Int64} {a1 : Int32} {a2 : Int64} : ∀ G : ez_F, fx_up X 2 G 147 18 [.ref 1, .long a0, ez_fill, .int a1] [.long a2] (ev_hp I J R T) cz kz = G 147 22 [.ref 1, .long a0, ez_fill, .int a1] [.long (J 1 8), .long a2] (ev_hp I J R T) cz kz := by
  intro G
  rfl
set_option maxRecDepth 100000 in
theorem mv1_r3 {a0 : Int64} {a1 : Int32} {a2 : Int64} {a3 : Int64} : ∀ G : ez_F, fx_up X 4 G 147 22 [.ref 1, .long a0, ez_fill, .int a1] [.long a2, .long a3] (ev_hp I J R T) cz kz = G 147 29 [.ref 1, .long a0, ez_fill, .int a1, .long (a3 &&& a2), ez_fill] [.int (I 1 5)] (ev_hp I J R T) cz kz := by
  intro G
  rfl
set_option maxRecDepth 100000 in
theorem mv1_r4 {a0 : Int64} {a1 : Int32} {a2 : Int64} {a3 : Int32} : ∀ G : ez_F, fx_up X 1 G 147 29 [.ref 1, .long a0, ez_fill, .int a1, .long a2, ez_fill] [.int a3] (ev_hp I J R T) cz kz = bif decide (a3 = (0 : Int32)) then G 147 37 [.ref 1, .long a0, ez_fill, .int a1, .long a2, ez_fill] [] (ev_hp I J R T) cz kz else G 147 32 [.ref 1, .long a0, ez_fill, .int a1, .long a2, ez_fill] [] (ev_hp I J R T) cz kz := by
  intro G
  rfl
set_option maxRecDepth 100000 in
theorem mv1_r5 {a0 : Int64} {a1 : Int32} {a2 : Int64} : ∀ G : ez_F, fx_up X 8 G 147 37 [.ref 1, .long a0, ez_fill, .int a1, .long a2, ez_fill] [] (ev_hp I J R T) cz kz = bif decide (a1 ≤ (0 : Int32)) then G 147 65 [.ref 1, .long a0, ez_fill, .int a1, .long a2, ez_fill, .long (0 : Int64), ez_fill, .long (a0 ^^^ a2), ez_fill] [] (ev_hp I J R T) cz kz else G 147 50 [.ref 1, .long a0, ez_fill, .int a1, .long a2, ez_fill, .long (0 : Int64), ez_fill, .long (a0 ^^^ a2), ez_fill] [] (ev_hp I J R T) cz kz := by
  intro G
  rfl
set_option maxRecDepth 100000 in
theorem mv1_r6 {a0 : Int64} {a1 : Int32} {a2 : Int64} {a3 : Int64} {a4 : Int64} : ∀ G : ez_F, fx_up X 6 G 147 65 [.ref 1, .long a0, ez_fill, .int a1, .long a2, ez_fill, .long a3, ez_fill, .long a4, ez_fill] [] (ev_hp I J R T) cz kz = G 147 75 [.ref 1, .long a0, ez_fill, .int a1, .long a2, ez_fill, .long a3, ez_fill, .long a4, ez_fill] [.int (I 1 3), .long a3, .long (a4.toUInt64 >>> ((1 : Int32).toInt64.toUInt64 &&& Int64.toUInt64 63)).toInt64] (ev_hp I J R T) cz kz := by
  intro G
  rfl
set_option maxRecDepth 100000 in
theorem mv1_r7 {a0 : Int64} {a1 : Int32} {a2 : Int64} {a3 : Int64} {a4 : Int64} {a5 : Int32} {a6 : Int64} {a7 : Int64} : ∀ G : ez_F, fx_up X 5 G 147 75 [.ref 1, .long a0, ez_fill, .int a1, .long a2, ez_fill, .long a3, ez_fill, .long a4, ez_fill] [.int a5, .long a6, .long a7] (ev_hp I J R T) cz kz = some (some (.long (a7 ||| (a6 <<< ((a5 - (1 : Int32)).toInt64 &&& (63 : Int64))))), (ev_hp I J R T), cz, kz) := by
  intro G
  rfl
set_option maxRecDepth 100000 in
theorem mv1_r8 {a0 : Int64} {a1 : Int32} {a2 : Int64} {a3 : Int64} {a4 : Int64} : ∀ G : ez_F, fx_up X 6 G 147 50 [.ref 1, .long a0, ez_fill, .int a1, .long a2, ez_fill, .long a3, ez_fill, .long a4, ez_fill] [] (ev_hp I J R T) cz kz = G 147 60 [.ref 1, .long a0, ez_fill, .int a1, .long a2, ez_fill, .long a3, ez_fill, .long a4, ez_fill] [.int (I 1 3), .long a3, .long (a4 <<< ((1 : Int32).toInt64 &&& (63 : Int64)))] (ev_hp I J R T) cz kz := by
  intro G
  rfl
set_option maxRecDepth 100000 in
theorem mv1_r9 {a0 : Int64} {a1 : Int32} {a2 : Int64} {a3 : Int64} {a4 : Int64} {a5 : Int32} {a6 : Int64} {a7 : Int64} : ∀ G : ez_F, fx_up X 5 G 147 60 [.ref 1, .long a0, ez_fill, .int a1, .long a2, ez_fill, .long a3, ez_fill, .long a4, ez_fill] [.int a5, .long a6, .long a7] (ev_hp I J R T) cz kz = some (some (.long (a7 ||| (a6.toUInt64 >>> ((a5 - (1 : Int32)).toInt64.toUInt64 &&& Int64.toUInt64 63)).toInt64)), (ev_hp I J R T), cz, kz) := by
  intro G
  rfl
set_option maxRecDepth 100000 in
theorem mv1_r10 {a0 : Int64} {a1 : Int32} {a2 : Int64} : ∀ G : ez_F, fx_up X 9 G 147 32 [.ref 1, .long a0, ez_fill, .int a1, .long a2, ez_fill] [] (ev_hp I J R T) cz kz = bif decide (a1 ≤ (0 : Int32)) then G 147 65 [.ref 1, .long a0, ez_fill, .int a1, .long a2, ez_fill, .long a2, ez_fill, .long (a0 ^^^ a2), ez_fill] [] (ev_hp I J R T) cz kz else G 147 50 [.ref 1, .long a0, ez_fill, .int a1, .long a2, ez_fill, .long a2, ez_fill, .long (a0 ^^^ a2), ez_fill] [] (ev_hp I J R T) cz kz := by
  intro G
  rfl
set_option maxRecDepth 100000 in
theorem mv1_r11 {a0 : Int64} {a1 : Int32} {a2 : Int64} : ∀ G : ez_F, fx_up X 2 G 147 11 [.ref 1, .long a0, ez_fill, .int a1] [.long a2] (ev_hp I J R T) cz kz = G 147 15 [.ref 1, .long a0, ez_fill, .int a1] [.long (J 1 9), .long a2] (ev_hp I J R T) cz kz := by
  intro G
  rfl
set_option maxRecDepth 100000 in
theorem mv1_r12 {a0 : Int64} {a1 : Int32} {a2 : Int64} {a3 : Int64} : ∀ G : ez_F, fx_up X 5 G 147 15 [.ref 1, .long a0, ez_fill, .int a1] [.long a2, .long a3] (ev_hp I J R T) cz kz = G 147 29 [.ref 1, .long a0, ez_fill, .int a1, .long (a3 &&& a2), ez_fill] [.int (I 1 5)] (ev_hp I J R T) cz kz := by
  intro G
  rfl
set_option maxRecDepth 100000 in
theorem mv1_r13 {a0 : Int64} {a1 : Int32} : ∀ G : ez_F, fx_up X 2 G 147 4 [.ref 1, .long a0, ez_fill, .int a1] [] (ev_hp I J R T) cz kz = some (some (.long a0), (ev_hp I J R T), cz, kz) := by
  intro G
  rfl
theorem ac_0 {z : Int64} {s : Int32}
    (H : ((¬ s = (0 : Int32) → ((s ≤ (0 : Int32) → (((I 1 5) = (0 : Int32) → ((s ≤ (0 : Int32) → Q (some (.long (((z ^^^ (z &&& (J 1 8))).toUInt64 >>> ((1 : Int32).toInt64.toUInt64 &&& Int64.toUInt64 63)).toInt64 ||| ((0 : Int64) <<< (((I 1 3) - (1 : Int32)).toInt64 &&& (63 : Int64)))))) (ev_hp I J R T)) ∧ (¬ (s ≤ (0 : Int32)) → Q (some (.long (((z ^^^ (z &&& (J 1 8))) <<< ((1 : Int32).toInt64 &&& (63 : Int64))) ||| ((0 : Int64).toUInt64 >>> (((I 1 3) - (1 : Int32)).toInt64.toUInt64 &&& Int64.toUInt64 63)).toInt64))) (ev_hp I J R T)))) ∧ (¬ ((I 1 5) = (0 : Int32)) → ((s ≤ (0 : Int32) → Q (some (.long (((z ^^^ (z &&& (J 1 8))).toUInt64 >>> ((1 : Int32).toInt64.toUInt64 &&& Int64.toUInt64 63)).toInt64 ||| ((z &&& (J 1 8)) <<< (((I 1 3) - (1 : Int32)).toInt64 &&& (63 : Int64)))))) (ev_hp I J R T)) ∧ (¬ (s ≤ (0 : Int32)) → Q (some (.long (((z ^^^ (z &&& (J 1 8))) <<< ((1 : Int32).toInt64 &&& (63 : Int64))) ||| ((z &&& (J 1 8)).toUInt64 >>> (((I 1 3) - (1 : Int32)).toInt64.toUInt64 &&& Int64.toUInt64 63)).toInt64))) (ev_hp I J R T)))))) ∧ (¬ (s ≤ (0 : Int32)) → (((I 1 5) = (0 : Int32) → ((s ≤ (0 : Int32) → Q (some (.long (((z ^^^ (z &&& (J 1 9))).toUInt64 >>> ((1 : Int32).toInt64.toUInt64 &&& Int64.toUInt64 63)).toInt64 ||| ((0 : Int64) <<< (((I 1 3) - (1 : Int32)).toInt64 &&& (63 : Int64)))))) (ev_hp I J R T)) ∧ (¬ (s ≤ (0 : Int32)) → Q (some (.long (((z ^^^ (z &&& (J 1 9))) <<< ((1 : Int32).toInt64 &&& (63 : Int64))) ||| ((0 : Int64).toUInt64 >>> (((I 1 3) - (1 : Int32)).toInt64.toUInt64 &&& Int64.toUInt64 63)).toInt64))) (ev_hp I J R T)))) ∧ (¬ ((I 1 5) = (0 : Int32)) → ((s ≤ (0 : Int32) → Q (some (.long (((z ^^^ (z &&& (J 1 9))).toUInt64 >>> ((1 : Int32).toInt64.toUInt64 &&& Int64.toUInt64 63)).toInt64 ||| ((z &&& (J 1 9)) <<< (((I 1 3) - (1 : Int32)).toInt64 &&& (63 : Int64)))))) (ev_hp I J R T)) ∧ (¬ (s ≤ (0 : Int32)) → Q (some (.long (((z ^^^ (z &&& (J 1 9))) <<< ((1 : Int32).toInt64 &&& (63 : Int64))) ||| ((z &&& (J 1 9)).toUInt64 >>> (((I 1 3) - (1 : Int32)).toInt64.toUInt64 &&& Int64.toUInt64 63)).toInt64))) (ev_hp I J R T)))))))) ∧ (¬ (¬ s = (0 : Int32)) → Q (some (.long z)) (ev_hp I J R T)))) : pw (N + 1) X 147 0 [.ref 1, .long z, ez_fill, .int s] [] (ev_hp I J R T) Q := by
  refine pw_if (by decide) (fun _ _ => mv1_r0) (fun w1 => ?_) (fun w1 => ?_)
  · have h1 := H.1 w1
    refine pw_p (pw_if (by decide) (fun _ _ => mv1_r1) (fun w2 => ?_) (fun w2 => ?_))
    · have h2 := h1.1 w2
      refine pw_p (pw_seg (by decide) (fun _ _ => mv1_r2) ?_)
      refine pw_p (pw_seg (by decide) (fun _ _ => mv1_r3) ?_)
      refine pw_p (pw_if (by decide) (fun _ _ => mv1_r4) (fun w3 => ?_) (fun w3 => ?_))
      · have h3 := h2.1 w3
        refine pw_p (pw_if (by decide) (fun _ _ => mv1_r5) (fun w4 => ?_) (fun w4 => ?_))
        · have h4 := h3.1 w4
          refine pw_p (pw_seg (by decide) (fun _ _ => mv1_r6) ?_)
          exact pw_p (pw_ret (by decide) (fun _ _ => mv1_r7) h4)
        · have h4 := h3.2 w4
          refine pw_p (pw_seg (by decide) (fun _ _ => mv1_r8) ?_)
          exact pw_p (pw_ret (by decide) (fun _ _ => mv1_r9) h4)
      · have h3 := h2.2 w3
        refine pw_p (pw_if (by decide) (fun _ _ => mv1_r10) (fun w4 => ?_) (fun w4 => ?_))
        · have h4 := h3.1 w4
          refine pw_p (pw_seg (by decide) (fun _ _ => mv1_r6) ?_)
          exact pw_p (pw_ret (by decide) (fun _ _ => mv1_r7) h4)
        · have h4 := h3.2 w4
          refine pw_p (pw_seg (by decide) (fun _ _ => mv1_r8) ?_)
          exact pw_p (pw_ret (by decide) (fun _ _ => mv1_r9) h4)
    · have h2 := h1.2 w2
      refine pw_p (pw_seg (by decide) (fun _ _ => mv1_r11) ?_)
      refine pw_p (pw_seg (by decide) (fun _ _ => mv1_r12) ?_)
      refine pw_p (pw_if (by decide) (fun _ _ => mv1_r4) (fun w3 => ?_) (fun w3 => ?_))
      · have h3 := h2.1 w3
        refine pw_p (pw_if (by decide) (fun _ _ => mv1_r5) (fun w4 => ?_) (fun w4 => ?_))
        · have h4 := h3.1 w4
          refine pw_p (pw_seg (by decide) (fun _ _ => mv1_r6) ?_)
          exact pw_p (pw_ret (by decide) (fun _ _ => mv1_r7) h4)
        · have h4 := h3.2 w4
          refine pw_p (pw_seg (by decide) (fun _ _ => mv1_r8) ?_)
          exact pw_p (pw_ret (by decide) (fun _ _ => mv1_r9) h4)
      · have h3 := h2.2 w3
        refine pw_p (pw_if (by decide) (fun _ _ => mv1_r10) (fun w4 => ?_) (fun w4 => ?_))
        · have h4 := h3.1 w4
          refine pw_p (pw_seg (by decide) (fun _ _ => mv1_r6) ?_)
          exact pw_p (pw_ret (by decide) (fun _ _ => mv1_r7) h4)
        · have h4 := h3.2 w4
          refine pw_p (pw_seg (by decide) (fun _ _ => mv1_r8) ?_)
          exact pw_p (pw_ret (by decide) (fun _ _ => mv1_r9) h4)
  · have h1 := H.2 w1
    exact pw_p (pw_ret (by decide) (fun _ _ => mv1_r13) h1)
set_option maxRecDepth 100000 in
theorem mv1_r14 {a0 : Int64} {a1 : Int32} : ∀ G : ez_F, fx_up X 2 G 148 0 [.ref 1, .long a0, ez_fill, .int a1] [] (ev_hp I J R T) cz kz = bif decide (¬ a1 = (0 : Int32)) then G 148 6 [.ref 1, .long a0, ez_fill, .int a1] [] (ev_hp I J R T) cz kz else G 148 4 [.ref 1, .long a0, ez_fill, .int a1] [] (ev_hp I J R T) cz kz := by
  intro G
  rfl
set_option maxRecDepth 100000 in
theorem mv1_r15 {a0 : Int64} {a1 : Int32} : ∀ G : ez_F, fx_up X 2 G 148 6 [.ref 1, .long a0, ez_fill, .int a1] [] (ev_hp I J R T) cz kz = G 148 10 [.ref 1, .long a0, ez_fill, .int a1] [.int (I 1 6)] (ev_hp I J R T) cz kz := by
  intro G
  rfl
set_option maxRecDepth 100000 in
theorem mv1_r16 {a0 : Int64} {a1 : Int32} {a2 : Int32} : ∀ G : ez_F, fx_up X 2 G 148 10 [.ref 1, .long a0, ez_fill, .int a1] [.int a2] (ev_hp I J R T) cz kz = G 148 14 [.ref 1, .long a0, ez_fill, .int a1] [.int (I 1 3), .int a2] (ev_hp I J R T) cz kz := by
  intro G
  rfl
set_option maxRecDepth 100000 in
theorem mv1_r17 {a0 : Int64} {a1 : Int32} {a2 : Int32} {a3 : Int32} : ∀ G : ez_F, fx_up X 4 G 148 14 [.ref 1, .long a0, ez_fill, .int a1] [.int a2, .int a3] (ev_hp I J R T) cz kz = bif decide (a1 ≤ (0 : Int32)) then G 148 49 [.ref 1, .long a0, ez_fill, .int a1, .int (a3 - a2)] [] (ev_hp I J R T) cz kz else G 148 21 [.ref 1, .long a0, ez_fill, .int a1, .int (a3 - a2)] [] (ev_hp I J R T) cz kz := by
  intro G
  rfl
set_option maxRecDepth 100000 in
theorem mv1_r18 {a0 : Int64} {a1 : Int32} {a2 : Int32} : ∀ G : ez_F, fx_up X 3 G 148 49 [.ref 1, .long a0, ez_fill, .int a1, .int a2] [] (ev_hp I J R T) cz kz = G 148 54 [.ref 1, .long a0, ez_fill, .int a1, .int a2] [.int (I 1 3), .long a0] (ev_hp I J R T) cz kz := by
  intro G
  rfl
set_option maxRecDepth 100000 in
theorem mv1_r19 {a0 : Int64} {a1 : Int32} {a2 : Int32} {a3 : Int32} {a4 : Int64} : ∀ G : ez_F, fx_up X 3 G 148 54 [.ref 1, .long a0, ez_fill, .int a1, .int a2] [.int a3, .long a4] (ev_hp I J R T) cz kz = G 148 59 [.ref 1, .long a0, ez_fill, .int a1, .int a2] [.int (I 1 5), .long (a4.toUInt64 >>> (a3.toInt64.toUInt64 &&& Int64.toUInt64 63)).toInt64] (ev_hp I J R T) cz kz := by
  intro G
  rfl
set_option maxRecDepth 100000 in
theorem mv1_r20 {a0 : Int64} {a1 : Int32} {a2 : Int32} {a3 : Int32} {a4 : Int64} : ∀ G : ez_F, fx_up X 1 G 148 59 [.ref 1, .long a0, ez_fill, .int a1, .int a2] [.int a3, .long a4] (ev_hp I J R T) cz kz = bif decide (a3 = (0 : Int32)) then G 148 69 [.ref 1, .long a0, ez_fill, .int a1, .int a2] [.long a4] (ev_hp I J R T) cz kz else G 148 62 [.ref 1, .long a0, ez_fill, .int a1, .int a2] [.long a4] (ev_hp I J R T) cz kz := by
  intro G
  rfl
set_option maxRecDepth 100000 in
theorem mv1_r21 {a0 : Int64} {a1 : Int32} {a2 : Int32} {a3 : Int64} : ∀ G : ez_F, fx_up X 4 G 148 69 [.ref 1, .long a0, ez_fill, .int a1, .int a2] [.long a3] (ev_hp I J R T) cz kz = G 148 75 [.ref 1, .long a0, ez_fill, .int a1, .int a2] [.long (J 1 7), .long (a3 ||| (0 : Int64))] (ev_hp I J R T) cz kz := by
  intro G
  rfl
set_option maxRecDepth 100000 in
theorem mv1_r22 {a0 : Int64} {a1 : Int32} {a2 : Int32} {a3 : Int64} {a4 : Int64} : ∀ G : ez_F, fx_up X 2 G 148 75 [.ref 1, .long a0, ez_fill, .int a1, .int a2] [.long a3, .long a4] (ev_hp I J R T) cz kz = some (some (.long (a4 &&& a3)), (ev_hp I J R T), cz, kz) := by
  intro G
  rfl
set_option maxRecDepth 100000 in
theorem mv1_r23 {a0 : Int64} {a1 : Int32} {a2 : Int32} {a3 : Int64} : ∀ G : ez_F, fx_up X 7 G 148 62 [.ref 1, .long a0, ez_fill, .int a1, .int a2] [.long a3] (ev_hp I J R T) cz kz = G 148 75 [.ref 1, .long a0, ez_fill, .int a1, .int a2] [.long (J 1 7), .long (a3 ||| (a0 <<< (a2.toInt64 &&& (63 : Int64))))] (ev_hp I J R T) cz kz := by
  intro G
  rfl
set_option maxRecDepth 100000 in
theorem mv1_r24 {a0 : Int64} {a1 : Int32} {a2 : Int32} : ∀ G : ez_F, fx_up X 3 G 148 21 [.ref 1, .long a0, ez_fill, .int a1, .int a2] [] (ev_hp I J R T) cz kz = G 148 26 [.ref 1, .long a0, ez_fill, .int a1, .int a2] [.int (I 1 3), .long a0] (ev_hp I J R T) cz kz := by
  intro G
  rfl
set_option maxRecDepth 100000 in
theorem mv1_r25 {a0 : Int64} {a1 : Int32} {a2 : Int32} {a3 : Int32} {a4 : Int64} : ∀ G : ez_F, fx_up X 3 G 148 26 [.ref 1, .long a0, ez_fill, .int a1, .int a2] [.int a3, .long a4] (ev_hp I J R T) cz kz = G 148 31 [.ref 1, .long a0, ez_fill, .int a1, .int a2] [.int (I 1 5), .long (a4 <<< (a3.toInt64 &&& (63 : Int64)))] (ev_hp I J R T) cz kz := by
  intro G
  rfl
set_option maxRecDepth 100000 in
theorem mv1_r26 {a0 : Int64} {a1 : Int32} {a2 : Int32} {a3 : Int32} {a4 : Int64} : ∀ G : ez_F, fx_up X 1 G 148 31 [.ref 1, .long a0, ez_fill, .int a1, .int a2] [.int a3, .long a4] (ev_hp I J R T) cz kz = bif decide (a3 = (0 : Int32)) then G 148 41 [.ref 1, .long a0, ez_fill, .int a1, .int a2] [.long a4] (ev_hp I J R T) cz kz else G 148 34 [.ref 1, .long a0, ez_fill, .int a1, .int a2] [.long a4] (ev_hp I J R T) cz kz := by
  intro G
  rfl
set_option maxRecDepth 100000 in
theorem mv1_r27 {a0 : Int64} {a1 : Int32} {a2 : Int32} {a3 : Int64} : ∀ G : ez_F, fx_up X 4 G 148 41 [.ref 1, .long a0, ez_fill, .int a1, .int a2] [.long a3] (ev_hp I J R T) cz kz = G 148 47 [.ref 1, .long a0, ez_fill, .int a1, .int a2] [.long (J 1 7), .long (a3 ||| (0 : Int64))] (ev_hp I J R T) cz kz := by
  intro G
  rfl
set_option maxRecDepth 100000 in
theorem mv1_r28 {a0 : Int64} {a1 : Int32} {a2 : Int32} {a3 : Int64} {a4 : Int64} : ∀ G : ez_F, fx_up X 2 G 148 47 [.ref 1, .long a0, ez_fill, .int a1, .int a2] [.long a3, .long a4] (ev_hp I J R T) cz kz = some (some (.long (a4 &&& a3)), (ev_hp I J R T), cz, kz) := by
  intro G
  rfl
set_option maxRecDepth 100000 in
theorem mv1_r29 {a0 : Int64} {a1 : Int32} {a2 : Int32} {a3 : Int64} : ∀ G : ez_F, fx_up X 7 G 148 34 [.ref 1, .long a0, ez_fill, .int a1, .int a2] [.long a3] (ev_hp I J R T) cz kz = G 148 47 [.ref 1, .long a0, ez_fill, .int a1, .int a2] [.long (J 1 7), .long (a3 ||| (a0.toUInt64 >>> (a2.toInt64.toUInt64 &&& Int64.toUInt64 63)).toInt64)] (ev_hp I J R T) cz kz := by
  intro G
  rfl
set_option maxRecDepth 100000 in
theorem mv1_r30 {a0 : Int64} {a1 : Int32} : ∀ G : ez_F, fx_up X 2 G 148 4 [.ref 1, .long a0, ez_fill, .int a1] [] (ev_hp I J R T) cz kz = some (some (.long a0), (ev_hp I J R T), cz, kz) := by
  intro G
  rfl
theorem dn_0 {z : Int64} {s : Int32}
    (H : ((¬ s = (0 : Int32) → ((s ≤ (0 : Int32) → (((I 1 5) = (0 : Int32) → Q (some (.long (((z.toUInt64 >>> ((I 1 3).toInt64.toUInt64 &&& Int64.toUInt64 63)).toInt64 ||| (0 : Int64)) &&& (J 1 7)))) (ev_hp I J R T)) ∧ (¬ ((I 1 5) = (0 : Int32)) → Q (some (.long (((z.toUInt64 >>> ((I 1 3).toInt64.toUInt64 &&& Int64.toUInt64 63)).toInt64 ||| (z <<< (((I 1 6) - (I 1 3)).toInt64 &&& (63 : Int64)))) &&& (J 1 7)))) (ev_hp I J R T)))) ∧ (¬ (s ≤ (0 : Int32)) → (((I 1 5) = (0 : Int32) → Q (some (.long (((z <<< ((I 1 3).toInt64 &&& (63 : Int64))) ||| (0 : Int64)) &&& (J 1 7)))) (ev_hp I J R T)) ∧ (¬ ((I 1 5) = (0 : Int32)) → Q (some (.long (((z <<< ((I 1 3).toInt64 &&& (63 : Int64))) ||| (z.toUInt64 >>> (((I 1 6) - (I 1 3)).toInt64.toUInt64 &&& Int64.toUInt64 63)).toInt64) &&& (J 1 7)))) (ev_hp I J R T)))))) ∧ (¬ (¬ s = (0 : Int32)) → Q (some (.long z)) (ev_hp I J R T)))) : pw (N + 1) X 148 0 [.ref 1, .long z, ez_fill, .int s] [] (ev_hp I J R T) Q := by
  refine pw_if (by decide) (fun _ _ => mv1_r14) (fun w1 => ?_) (fun w1 => ?_)
  · have h1 := H.1 w1
    refine pw_p (pw_seg (by decide) (fun _ _ => mv1_r15) ?_)
    refine pw_p (pw_seg (by decide) (fun _ _ => mv1_r16) ?_)
    refine pw_p (pw_if (by decide) (fun _ _ => mv1_r17) (fun w2 => ?_) (fun w2 => ?_))
    · have h2 := h1.1 w2
      refine pw_p (pw_seg (by decide) (fun _ _ => mv1_r18) ?_)
      refine pw_p (pw_seg (by decide) (fun _ _ => mv1_r19) ?_)
      refine pw_p (pw_if (by decide) (fun _ _ => mv1_r20) (fun w3 => ?_) (fun w3 => ?_))
      · have h3 := h2.1 w3
        refine pw_p (pw_seg (by decide) (fun _ _ => mv1_r21) ?_)
        exact pw_p (pw_ret (by decide) (fun _ _ => mv1_r22) h3)
      · have h3 := h2.2 w3
        refine pw_p (pw_seg (by decide) (fun _ _ => mv1_r23) ?_)
        exact pw_p (pw_ret (by decide) (fun _ _ => mv1_r22) h3)
    · have h2 := h1.2 w2
      refine pw_p (pw_seg (by decide) (fun _ _ => mv1_r24) ?_)
      refine pw_p (pw_seg (by decide) (fun _ _ => mv1_r25) ?_)
      refine pw_p (pw_if (by decide) (fun _ _ => mv1_r26) (fun w3 => ?_) (fun w3 => ?_))
      · have h3 := h2.1 w3
        refine pw_p (pw_seg (by decide) (fun _ _ => mv1_r27) ?_)
        exact pw_p (pw_ret (by decide) (fun _ _ => mv1_r28) h3)
      · have h3 := h2.2 w3
        refine pw_p (pw_seg (by decide) (fun _ _ => mv1_r29) ?_)
        exact pw_p (pw_ret (by decide) (fun _ _ => mv1_r28) h3)
  · have h1 := H.2 w1
    exact pw_p (pw_ret (by decide) (fun _ _ => mv1_r30) h1)
end
section
variable {N : Nat} {X : ez_X} {I : Nat → Nat → Int32} {J : Nat → Nat → Int64} {R : Nat → Nat} {T : List ez_C} {z : Int64} {s : Int32}
theorem pe_across : pe N X 147 [.ref 1, .long z, .int s] (ev_hp I J R T) (fun r h => r = some (.long (ma (I 1 3) (I 1 5) (J 1 8) (J 1 9) z s)) ∧ h = ev_hp I J R T) := by
  unfold ma
  refine pe_of (pw_p (ac_0 ⟨fun h => ⟨fun h2 => ⟨fun h3 => ⟨fun _ => ?_, fun h4 => absurd h2 h4⟩, fun h3 => ⟨fun _ => ?_, fun h4 => absurd h2 h4⟩⟩, fun h2 => ⟨fun h3 => ⟨fun h4 => absurd h4 h2, fun _ => ?_⟩, fun h3 => ⟨fun h4 => absurd h4 h2, fun _ => ?_⟩⟩⟩, fun h => ?_⟩))
  · rw [if_neg h, if_pos h2, if_pos h3]
    exact ⟨rfl, rfl⟩
  · rw [if_neg h, if_pos h2, if_neg h3]
    exact ⟨rfl, rfl⟩
  · rw [if_neg h, if_neg h2, if_pos h3]
    exact ⟨rfl, rfl⟩
  · rw [if_neg h, if_neg h2, if_neg h3]
    exact ⟨rfl, rfl⟩
  · rw [if_pos (Classical.not_not.mp h)]
    exact ⟨rfl, rfl⟩
theorem pe_down : pe N X 148 [.ref 1, .long z, .int s] (ev_hp I J R T) (fun r h => r = some (.long (md (I 1 3) (I 1 5) (I 1 6) (J 1 7) z s)) ∧ h = ev_hp I J R T) := by
  unfold md
  refine pe_of (pw_p (dn_0 ⟨fun h => ⟨fun h2 => ⟨fun h3 => ?_, fun h3 => ?_⟩, fun h2 => ⟨fun h3 => ?_, fun h3 => ?_⟩⟩, fun h => ?_⟩))
  · rw [if_neg h, if_pos h2, if_pos h3]
    exact ⟨rfl, rfl⟩
  · rw [if_neg h, if_pos h2, if_neg h3]
    exact ⟨rfl, rfl⟩
  · rw [if_neg h, if_neg h2, if_pos h3]
    exact ⟨rfl, rfl⟩
  · rw [if_neg h, if_neg h2, if_neg h3]
    exact ⟨rfl, rfl⟩
  · rw [if_pos (Classical.not_not.mp h)]
    exact ⟨rfl, rfl⟩
end
section
variable {N : Nat} {X : ez_X} {I : Nat → Nat → Int32} {J : Nat → Nat → Int64} {R : Nat → Nat} {T : List ez_C} {Q : pw_Q} {cz kz : Nat}
set_option maxRecDepth 100000 in
theorem ar1_r0 {a0 : Int64} : ∀ G : ez_F, fx_up X 4 G 144 0 [.ref 1, .long a0, ez_fill] [] (ev_hp I J R T) cz kz = ev_C G 3 [.ref 2, .int (0 : Int32)] (ev_hp I J R T) fun r h1 c1 k1 => G 144 8 [.ref 1, .long a0, ez_fill] (r.toList ++ []) h1 (cz + c1) (kz + k1) := by
  intro G
  rfl
set_option maxRecDepth 100000 in
theorem ar1_r1 {a0 : Int64} {a1 : Int32} : ∀ G : ez_F, fx_up X 3 G 144 8 [.ref 1, .long a0, ez_fill] [.int a1] (ev_hp I J R T) cz kz = bif decide (¬ a1 = (0 : Int32)) then G 144 15 [.ref 1, .long a0, ez_fill, .int a1] [] (ev_hp I J R T) cz kz else G 144 13 [.ref 1, .long a0, ez_fill, .int a1] [] (ev_hp I J R T) cz kz := by
  intro G
  rfl
set_option maxRecDepth 100000 in
theorem ar1_r2 {a0 : Int64} {a1 : Int32} : ∀ G : ez_F, fx_up X 5 G 144 15 [.ref 1, .long a0, ez_fill, .int a1] [] (ev_hp I J R T) cz kz = ev_C G 147 [.ref 1, .long a0, .int (1 : Int32)] (ev_hp I J R T) fun r h1 c1 k1 => G 144 22 [.ref 1, .long a0, ez_fill, .int a1] (r.toList ++ [.long a0]) h1 (cz + c1) (kz + k1) := by
  intro G
  rfl
set_option maxRecDepth 100000 in
theorem ar1_r3 {a0 : Int64} {a1 : Int32} {a2 : Int64} {a3 : Int64} : ∀ G : ez_F, fx_up X 5 G 144 22 [.ref 1, .long a0, ez_fill, .int a1] [.long a2, .long a3] (ev_hp I J R T) cz kz = ev_C G 147 [.ref 1, .long a0, .int (-1 : Int32)] (ev_hp I J R T) fun r h1 c1 k1 => G 144 29 [.ref 1, .long a0, ez_fill, .int a1] (r.toList ++ [.long (a3 ||| a2)]) h1 (cz + c1) (kz + k1) := by
  intro G
  rfl
set_option maxRecDepth 100000 in
theorem ar1_r4 {a0 : Int64} {a1 : Int32} {a2 : Int64} {a3 : Int64} : ∀ G : ez_F, fx_up X 5 G 144 29 [.ref 1, .long a0, ez_fill, .int a1] [.long a2, .long a3] (ev_hp I J R T) cz kz = bif decide (¬ a1 = (1 : Int32)) then G 144 41 [.ref 1, .long a0, ez_fill, .int a1, .long (a3 ||| a2), ez_fill] [] (ev_hp I J R T) cz kz else G 144 37 [.ref 1, .long a0, ez_fill, .int a1, .long (a3 ||| a2), ez_fill] [] (ev_hp I J R T) cz kz := by
  intro G
  rfl
set_option maxRecDepth 100000 in
theorem ar1_r5 {a0 : Int64} {a1 : Int32} {a2 : Int64} : ∀ G : ez_F, fx_up X 7 G 144 41 [.ref 1, .long a0, ez_fill, .int a1, .long a2, ez_fill] [] (ev_hp I J R T) cz kz = ev_C G 148 [.ref 1, .long a2, .int (1 : Int32)] (ev_hp I J R T) fun r h1 c1 k1 => G 144 54 [.ref 1, .long a0, ez_fill, .int a1, .long a2, ez_fill, .long a2, ez_fill] (r.toList ++ [.long a2]) h1 (cz + c1) (kz + k1) := by
  intro G
  rfl
set_option maxRecDepth 100000 in
theorem ar1_r6 {a0 : Int64} {a1 : Int32} {a2 : Int64} {a3 : Int64} {a4 : Int64} {a5 : Int64} : ∀ G : ez_F, fx_up X 5 G 144 54 [.ref 1, .long a0, ez_fill, .int a1, .long a2, ez_fill, .long a3, ez_fill] [.long a4, .long a5] (ev_hp I J R T) cz kz = ev_C G 148 [.ref 1, .long a3, .int (-1 : Int32)] (ev_hp I J R T) fun r h1 c1 k1 => G 144 62 [.ref 1, .long a0, ez_fill, .int a1, .long a2, ez_fill, .long a3, ez_fill] (r.toList ++ [.long (a5 ||| a4)]) h1 (cz + c1) (kz + k1) := by
  intro G
  rfl
set_option maxRecDepth 100000 in
theorem ar1_r7 {a0 : Int64} {a1 : Int32} {a2 : Int64} {a3 : Int64} {a4 : Int64} {a5 : Int64} : ∀ G : ez_F, fx_up X 2 G 144 62 [.ref 1, .long a0, ez_fill, .int a1, .long a2, ez_fill, .long a3, ez_fill] [.long a4, .long a5] (ev_hp I J R T) cz kz = some (some (.long (a5 ||| a4)), (ev_hp I J R T), cz, kz) := by
  intro G
  rfl
set_option maxRecDepth 100000 in
theorem ar1_r8 {a0 : Int64} {a1 : Int32} {a2 : Int64} : ∀ G : ez_F, fx_up X 8 G 144 37 [.ref 1, .long a0, ez_fill, .int a1, .long a2, ez_fill] [] (ev_hp I J R T) cz kz = ev_C G 148 [.ref 1, .long a0, .int (1 : Int32)] (ev_hp I J R T) fun r h1 c1 k1 => G 144 54 [.ref 1, .long a0, ez_fill, .int a1, .long a2, ez_fill, .long a0, ez_fill] (r.toList ++ [.long a2]) h1 (cz + c1) (kz + k1) := by
  intro G
  rfl
set_option maxRecDepth 100000 in
theorem ar1_r9 {a0 : Int64} {a1 : Int32} : ∀ G : ez_F, fx_up X 2 G 144 13 [.ref 1, .long a0, ez_fill, .int a1] [] (ev_hp I J R T) cz kz = some (some (.long a0), (ev_hp I J R T), cz, kz) := by
  intro G
  rfl
theorem ar_0 {z : Int64}
    (H : ((¬ (ev_at 3 (I 2) (0 : Int32)) = (0 : Int32) → ((¬ (ev_at 3 (I 2) (0 : Int32)) = (1 : Int32) → Q (some (.long ((((z ||| (ma (I 1 3) (I 1 5) (J 1 8) (J 1 9) z (1 : Int32))) ||| (ma (I 1 3) (I 1 5) (J 1 8) (J 1 9) z (-1 : Int32))) ||| (md (I 1 3) (I 1 5) (I 1 6) (J 1 7) ((z ||| (ma (I 1 3) (I 1 5) (J 1 8) (J 1 9) z (1 : Int32))) ||| (ma (I 1 3) (I 1 5) (J 1 8) (J 1 9) z (-1 : Int32))) (1 : Int32))) ||| (md (I 1 3) (I 1 5) (I 1 6) (J 1 7) ((z ||| (ma (I 1 3) (I 1 5) (J 1 8) (J 1 9) z (1 : Int32))) ||| (ma (I 1 3) (I 1 5) (J 1 8) (J 1 9) z (-1 : Int32))) (-1 : Int32))))) (ev_hp I J R T)) ∧ (¬ (¬ (ev_at 3 (I 2) (0 : Int32)) = (1 : Int32)) → Q (some (.long ((((z ||| (ma (I 1 3) (I 1 5) (J 1 8) (J 1 9) z (1 : Int32))) ||| (ma (I 1 3) (I 1 5) (J 1 8) (J 1 9) z (-1 : Int32))) ||| (md (I 1 3) (I 1 5) (I 1 6) (J 1 7) z (1 : Int32))) ||| (md (I 1 3) (I 1 5) (I 1 6) (J 1 7) z (-1 : Int32))))) (ev_hp I J R T)))) ∧ (¬ (¬ (ev_at 3 (I 2) (0 : Int32)) = (0 : Int32)) → Q (some (.long z)) (ev_hp I J R T)))) : pw (N + 1) X 144 0 [.ref 1, .long z, ez_fill] [] (ev_hp I J R T) Q := by
  refine pw_callp (by decide) (fun _ _ => ar1_r0) (pe_at (show cx_Ds[2]? = some (0, 3, []) from rfl) (by decide)) ?_
  refine pw_p (pw_if (by decide) (fun _ _ => ar1_r1) (fun w1 => ?_) (fun w1 => ?_))
  · have h1 := H.1 w1
    refine pw_p (pw_callp (by decide) (fun _ _ => ar1_r2) (pe_across) ?_)
    refine pw_p (pw_callp (by decide) (fun _ _ => ar1_r3) (pe_across) ?_)
    refine pw_p (pw_if (by decide) (fun _ _ => ar1_r4) (fun w2 => ?_) (fun w2 => ?_))
    · have h2 := h1.1 w2
      refine pw_p (pw_callp (by decide) (fun _ _ => ar1_r5) (pe_down) ?_)
      refine pw_p (pw_callp (by decide) (fun _ _ => ar1_r6) (pe_down) ?_)
      exact pw_p (pw_ret (by decide) (fun _ _ => ar1_r7) h2)
    · have h2 := h1.2 w2
      refine pw_p (pw_callp (by decide) (fun _ _ => ar1_r8) (pe_down) ?_)
      refine pw_p (pw_callp (by decide) (fun _ _ => ar1_r6) (pe_down) ?_)
      exact pw_p (pw_ret (by decide) (fun _ _ => ar1_r7) h2)
  · have h1 := H.2 w1
    exact pw_p (pw_ret (by decide) (fun _ _ => ar1_r9) h1)
end
noncomputable def aw (W wr : Int32) (fc lc z : Int64) : Int64 := (z ||| ma W wr fc lc z 1) ||| ma W wr fc lc z (-1)
noncomputable def ar (W wr C : Int32) (al fc lc : Int64) (t : Int32) (z : Int64) : Int64 := if t = 0 then z else if t = 1 then (aw W wr fc lc z ||| md W wr C al z 1) ||| md W wr C al z (-1) else (aw W wr fc lc z ||| md W wr C al (aw W wr fc lc z) 1) ||| md W wr C al (aw W wr fc lc z) (-1)
section
variable {N : Nat} {X : ez_X} {I : Nat → Nat → Int32} {J : Nat → Nat → Int64} {R : Nat → Nat} {T : List ez_C} {z : Int64}
theorem pe_around : pe N X 144 [.ref 1, .long z] (ev_hp I J R T) (fun r h => r = some (.long (ar (I 1 3) (I 1 5) (I 1 6) (J 1 7) (J 1 8) (J 1 9) (I 2 0) z)) ∧ h = ev_hp I J R T) := by
  unfold ar
  refine pe_of (pw_p (ar_0 ?_))
  rw [at3_0]
  refine ⟨fun h => ⟨fun h2 => ?_, fun h2 => ?_⟩, fun h => ?_⟩
  · rw [if_neg h, if_neg h2]
    exact ⟨rfl, rfl⟩
  · rw [if_neg h, if_pos (Classical.not_not.mp h2)]
    exact ⟨rfl, rfl⟩
  · rw [if_pos (Classical.not_not.mp h)]
    exact ⟨rfl, rfl⟩
end
/-! both ways take a union apart -/
theorem kb_xor (x y : Int64) (n : Nat) : kb (x ^^^ y) n = Bool.xor (kb x n) (kb y n) := by
  unfold kb
  rw [Int64.toBitVec_xor, BitVec.getLsbD_xor]
theorem us_or (x y : Int64) (n : Int32) : us (x ||| y) n = us x n ||| us y n := by
  unfold us
  rw [Int64.toUInt64_or, UInt64.shiftRight_or, UInt64.toInt64_or]
theorem sl_or (x y : Int64) (n : Int32) : sl (x ||| y) n = sl x n ||| sl y n := Int64.shiftLeft_or
theorem and_o (x y m : Int64) : (x ||| y) &&& m = (x &&& m) ||| (y &&& m) := kb_ext fun n _ => by
  rw [kb_and, kb_or, kb_or, kb_and, kb_and]
  cases kb x n <;> cases kb y n <;> cases kb m n <;> rfl
theorem xm_or (x y m : Int64) : xm (x ||| y) m = xm x m ||| xm y m := kb_ext fun n _ => by
  unfold xm
  rw [kb_xor, kb_and, kb_or, kb_or, kb_xor, kb_and, kb_xor, kb_and]
  cases kb x n <;> cases kb y n <;> cases kb m n <;> rfl
theorem or4 (a b c d : Int64) : (a ||| b) ||| (c ||| d) = (a ||| c) ||| (b ||| d) := kb_ext fun n _ => by
  simp only [kb_or]
  cases kb a n <;> cases kb b n <;> cases kb c n <;> cases kb d n <;> rfl
theorem if_o {P : Prop} {d : Decidable P} (x y : Int64) : (if P then (0 : Int64) else x ||| y) = (if P then 0 else x) ||| (if P then 0 else y) := by
  split
  · exact Int64.or_zero.symm
  · rfl
section
variable (W wr C : Int32) (al fc lc x y : Int64) (s t : Int32)
theorem ma_or : ma W wr fc lc (x ||| y) s = ma W wr fc lc x s ||| ma W wr fc lc y s := by
  unfold ma
  split
  · rfl
  split
  · rw [xm_or, us_or, and_o, if_o, sl_or, or4]
  · rw [xm_or, sl_or, and_o, if_o, us_or, or4]
theorem md_or : md W wr C al (x ||| y) s = md W wr C al x s ||| md W wr C al y s := by
  unfold md
  split
  · rfl
  split
  · rw [us_or, sl_or, if_o, or4, and_o]
  · rw [us_or, sl_or, if_o, or4, and_o]
theorem aw_or : aw W wr fc lc (x ||| y) = aw W wr fc lc x ||| aw W wr fc lc y := by
  unfold aw
  rw [ma_or, ma_or, or4 x y, or4]
theorem ar_or : ar W wr C al fc lc t (x ||| y) = ar W wr C al fc lc t x ||| ar W wr C al fc lc t y := by
  unfold ar
  split
  · rfl
  split
  · rw [aw_or, md_or, md_or, or4 (aw W wr fc lc x), or4]
  · rw [aw_or, md_or, md_or, or4 (aw W wr fc lc x), or4]
end
/-! sets of cells of the paper -/
noncomputable def fc_L (W : Int32) : Nat → Int32 → Int64 → Int64
  | 0, _, f => f
  | r + 1, y, f => fc_L W r (y + 1) (f ||| ((1 : Int64) <<< ((W * y).toInt64 &&& (63 : Int64))))
noncomputable def al_F (C : Int32) : Int64 := ((1 : Int64) <<< (C.toInt64 &&& (63 : Int64))) - 1
noncomputable def fc_F (W H : Int32) : Int64 := fc_L W H.toInt.toNat 0 0
noncomputable def lc_F (W H : Int32) : Int64 := fc_F W H <<< ((W - 1).toInt64 &&& (63 : Int64))
noncomputable def cell1 (c : Nat) : Int64 := (1 : Int64) <<< ((Int32.ofNat c).toInt64 &&& (63 : Int64))
noncomputable def ar_paper (W H wr t : Int32) (z : Int64) : Int64 := ar W wr (W * H) (al_F (W * H)) (fc_F W H) (lc_F W H) t z
noncomputable def ar_tab (W H : Nat) : Bool := (List.range 2).all fun wr => (List.range 2).all fun t => (List.range (W * H)).all fun c => decide (ar_paper (Int32.ofNat W) (Int32.ofNat H) (Int32.ofNat wr) (Int32.ofNat (t + 1)) (cell1 c) = cell1 c ||| ab_K (Int32.ofNat W) (Int32.ofNat H) (Int32.ofNat wr) (Int32.ofNat (t + 1)) (Int32.ofNat c) 9 0 0)
theorem ar_t2 : ((List.range 5).all fun h => ar_tab 2 (h + 2)) = true := by decide +kernel
theorem ar_t3 : ((List.range 5).all fun h => ar_tab 3 (h + 2)) = true := by decide +kernel
theorem ar_t4 : ((List.range 5).all fun h => ar_tab 4 (h + 2)) = true := by decide +kernel
theorem ar_t5 : ((List.range 5).all fun h => ar_tab 5 (h + 2)) = true := by decide +kernel
theorem ar_t6 : ((List.range 5).all fun h => ar_tab 6 (h + 2)) = true := by decide +kernel
theorem ar_ts {W H wr t c : Nat} (hW : 2 ≤ W ∧ W ≤ 6) (hH : 2 ≤ H ∧ H ≤ 6) (hwr : wr < 2) (ht : t = 1 ∨ t = 2) (hc : c < W * H) : ar_paper (Int32.ofNat W) (Int32.ofNat H) (Int32.ofNat wr) (Int32.ofNat t) (cell1 c) = cell1 c ||| ab_K (Int32.ofNat W) (Int32.ofNat H) (Int32.ofNat wr) (Int32.ofNat t) (Int32.ofNat c) 9 0 0 := by
  have h0 : ar_tab W H = true := by
    have key : ∀ w, ((List.range 5).all fun h => ar_tab w (h + 2)) = true → ar_tab w H = true := fun w h => by
      have := List.all_eq_true.mp h (H - 2) (List.mem_range.mpr (by omega))
      rw [show H - 2 + 2 = H by omega] at this
      exact this
    rcases (show W = 2 ∨ W = 3 ∨ W = 4 ∨ W = 5 ∨ W = 6 by omega) with rfl | rfl | rfl | rfl | rfl
    · exact key 2 ar_t2
    · exact key 3 ar_t3
    · exact key 4 ar_t4
    · exact key 5 ar_t5
    · exact key 6 ar_t6
  have h1 := List.all_eq_true.mp h0 wr (List.mem_range.mpr hwr)
  have h2 := List.all_eq_true.mp h1 (t - 1) (List.mem_range.mpr (by omega))
  have h3 := of_decide_eq_true (List.all_eq_true.mp h2 c (List.mem_range.mpr hc))
  rw [show t - 1 + 1 = t by omega] at h3
  exact h3
/-! the reference gathers what is about each cell -/
section
variable (W H wr far : Int32)
theorem ab_q_or (d1 d2 x' y' : Int32) (y : Int64) : ab_q W H far d1 d2 x' y' y = y ||| ab_q W H far d1 d2 x' y' 0 := by
  unfold ab_q
  split
  · exact Int64.or_zero.symm
  split
  · exact Int64.or_zero.symm
  split
  · rw [Int64.zero_or]
  · exact Int64.or_zero.symm
theorem ab_K_or (c : Int32) : ∀ (r : Nat) (k : Int32) (y : Int64), ab_K W H wr far c r k y = y ||| ab_K W H wr far c r k 0 := by
  intro r
  induction r with
  | zero => exact fun k y => Int64.or_zero.symm
  | succ r ih =>
    intro k y
    unfold ab_K
    rw [ih, ih (k + 1) (ab_p W H wr far c k 0)]
    unfold ab_p
    rw [ab_q_or W H far _ _ _ _ y, Int64.or_assoc]
/-- the first c cells of a set, and what is about them -/
noncomputable def pz (z : Int64) : Nat → Int64
  | 0 => 0
  | c + 1 => if kb z c = true then pz z c ||| cell1 c else pz z c
noncomputable def pq (z : Int64) : Nat → Int64
  | 0 => 0
  | c + 1 => if kb z c = true then pq z c ||| ab_K W H wr far (Int32.ofNat c) 9 0 0 else pq z c
theorem pz_kb (z : Int64) : ∀ (c : Nat), c ≤ 64 → ∀ n, kb (pz z c) n = (decide (n < c) && kb z n) := by
  intro c
  induction c with
  | zero =>
    intro _ n
    rw [decide_eq_false (Nat.not_lt_zero n)]
    exact kb_0 n
  | succ c ih =>
    intro hc n
    unfold pz
    split
    · rename_i hk
      rw [kb_or, ih (by omega), cell1, kb_one (by omega)]
      by_cases h : n = c
      · subst h
        rw [decide_eq_true rfl, decide_eq_true (Nat.lt_succ_self n), hk]
        simp
      · rw [decide_eq_false h, Bool.or_false]
        by_cases h2 : n < c
        · rw [decide_eq_true h2, decide_eq_true (show n < c + 1 by omega)]
        · rw [decide_eq_false h2, decide_eq_false (show ¬ n < c + 1 by omega)]
    · rename_i hk
      rw [ih (by omega)]
      by_cases h : n = c
      · subst h
        rw [decide_eq_false (Nat.lt_irrefl n), Bool.false_and]
        cases hz : kb z n with
        | true => exact absurd hz hk
        | false => simp
      · by_cases h2 : n < c
        · rw [decide_eq_true h2, decide_eq_true (show n < c + 1 by omega)]
        · rw [decide_eq_false h2, decide_eq_false (show ¬ n < c + 1 by omega)]
theorem pz_all {z : Int64} {C : Nat} (hC : C ≤ 64) (hz : ∀ n, C ≤ n → kb z n = false) : pz z C = z := kb_ext fun n _ => by
  rw [pz_kb z C hC]
  by_cases h : n < C
  · rw [decide_eq_true h, Bool.true_and]
  · rw [decide_eq_false h, Bool.false_and, hz n (by omega)]
theorem ab_C_is (z : Int64) {C : Nat} (hC : C ≤ 64) : ∀ (r c : Nat) (y : Int64), c + r = C → y = z ||| pq W H wr far z c → ab_C W H wr far z r (Int32.ofNat c) y = z ||| pq W H wr far z C := by
  intro r
  induction r with
  | zero =>
    intro c y hc hy
    obtain rfl : c = C := by omega
    exact hy
  | succ r ih =>
    intro c y hc hy
    unfold ab_C
    rw [io_1]
    refine ih (c + 1) _ (by omega) ?_
    unfold pq
    have hk := has_kb z (j := c) (by omega)
    by_cases h : kb z c = true
    · rw [if_neg (fun e => by rw [hk.mp e] at h; cases h), if_pos h, ab_K_or, hy, Int64.or_assoc]
    · rw [if_pos (hk.mpr (by cases hz : kb z c with | true => exact absurd hz h | false => rfl)), if_neg h]
      exact hy
end
/-- the same cells -/
theorem ar_ab {W H wr t : Nat} (hW : 2 ≤ W ∧ W ≤ 6) (hH : 2 ≤ H ∧ H ≤ 6) (hwr : wr < 2) (ht : t ≤ 2) {z : Int64} (hz : ∀ n, W * H ≤ n → kb z n = false) : ar_paper (Int32.ofNat W) (Int32.ofNat H) (Int32.ofNat wr) (Int32.ofNat t) z = ab_F (Int32.ofNat W) (Int32.ofNat H) (Int32.ofNat wr) (Int32.ofNat t) z := by
  by_cases h0 : t = 0
  · subst h0
    rfl
  have m1 : W * H ≤ 6 * 6 := Nat.mul_le_mul hW.2 hH.2
  have hnp : ¬ Int32.ofNat t ≤ 0 := fun e => by
    rw [io_le0 (by omega)] at e
    exact h0 e
  have hC : (Int32.ofNat W * Int32.ofNat H).toInt.toNat = W * H := by
    rw [io_mul, io_ti (by omega)]
    omega
  unfold ab_F
  rw [if_neg hnp, hC, show (0 : Int32) = Int32.ofNat 0 from rfl, ab_C_is _ _ _ _ z (C := W * H) (by omega) (W * H) 0 z (by omega) Int64.or_zero.symm]
  have key : ∀ c, c ≤ W * H → ar_paper (Int32.ofNat W) (Int32.ofNat H) (Int32.ofNat wr) (Int32.ofNat t) (pz z c) = pz z c ||| pq (Int32.ofNat W) (Int32.ofNat H) (Int32.ofNat wr) (Int32.ofNat t) z c := by
    intro c
    induction c with
    | zero =>
      intro _
      have e : ar_paper (Int32.ofNat W) (Int32.ofNat H) (Int32.ofNat wr) (Int32.ofNat t) 0 = 0 := by
        have h1 : ∀ s, us 0 s = 0 := fun s => by
          unfold us
          rw [show Int64.toUInt64 0 = 0 from rfl, UInt64.zero_shiftRight]
          rfl
        have h2 : ∀ s, sl 0 s = 0 := fun s => Int64.zero_shiftLeft
        have h3 : ∀ m, xm 0 m = 0 := fun m => kb_ext fun n _ => by
          unfold xm
          rw [kb_xor, kb_and, kb_0]
          rfl
        have h4 : ∀ m : Int64, 0 &&& m = 0 := fun m => kb_ext fun n _ => by
          rw [kb_and, kb_0]
          rfl
        have h5 : ∀ (W wr : Int32) (fc lc : Int64) s, ma W wr fc lc 0 s = 0 := fun W wr fc lc s => by
          unfold ma
          simp only [h1, h2, h3, h4, ite_self, Int64.or_zero]
        have h6 : ∀ (W wr C : Int32) (al : Int64) s, md W wr C al 0 s = 0 := fun W wr C al s => by
          unfold md
          simp only [h1, h2, h4, ite_self, Int64.or_zero]
        unfold ar_paper ar aw
        simp only [h5, h6, Int64.or_zero, ite_self]
      exact e.trans Int64.or_zero.symm
    | succ c ih =>
      intro hc
      unfold pz pq
      split
      · have e := ar_or (Int32.ofNat W) (Int32.ofNat wr) (Int32.ofNat W * Int32.ofNat H) (al_F (Int32.ofNat W * Int32.ofNat H)) (fc_F (Int32.ofNat W) (Int32.ofNat H)) (lc_F (Int32.ofNat W) (Int32.ofNat H)) (pz z c) (cell1 c) (Int32.ofNat t)
        have e2 := ar_ts (c := c) hW hH hwr (t := t) (by omega) (Nat.lt_of_succ_le hc)
        have e1 := ih (Nat.le_of_succ_le hc)
        unfold ar_paper at e1 e2 ⊢
        rw [e, e1, e2, or4]
      · exact ih (Nat.le_of_succ_le hc)
  have h1 := key (W * H) (Nat.le_refl _)
  rw [pz_all (by omega) hz] at h1
  exact h1
end
section
/-! The paper is laid anew: what its sets hold. -/
theorem pw_putf {N : Nat} {X : ez_X} {m pc a b cut w d p c : Nat} {ls st fs : List Value} {h h2 : ez_H} {Q : pw_Q} {v : Value} {idx : Nat} (hP : ez_P0 m pc = some (.putfield idx, 3, a, b, cut, w, d)) (hp : h[p]? = some (.inr (c, fs))) (hs : h.set p (.inr (c, fs.set b v)) = h2)
    (e : pw N X m (pc + 3) (ez_cut cut ls) st h2 Q) : pw (N + 1) X m pc ls (v :: .ref p :: st) h Q := by
  refine pw_b (I := .putfield idx) (len := 3) (a := a) (b := b) (cut := cut) (fun G c k => ?_) fun ls' st' h' hb => ?_
  · unfold ez_stp
    rw [hP]
    rfl
  · have hb : (ez_set (ez_ty0 a b) a b h (v :: .ref p :: st)).map (fun t => (ez_cut cut ls, t.1, t.2)) = some (ls', st', h') := hb
    obtain ⟨e1, rfl⟩ := q_mapH hb
    obtain ⟨w2, p2, c2, fs2, e2, e3, -, rfl⟩ := q_setf e1
    injection e2 with e2 e4
    injection e4 with e4 e5
    injection e4 with e4
    subst e2 e4 e5
    rw [hp] at e3
    injection e3 with e3
    injection e3 with e3
    injection e3 with e3 e6
    subst e3 e6
    rw [hs]
    exact e
section
variable {N : Nat} {X : ez_X} {I : Nat → Nat → Int32} {J : Nat → Nat → Int64} {R : Nat → Nat} {T : List ez_C} {Q : pw_Q} {cz kz : Nat}
set_option maxRecDepth 100000 in
theorem bc_r0 {a0 : Int32} {a1 : Int32} {a2 : Int32} : ∀ G : ez_F, fx_up X 3 G 145 0 [.ref 1, .int a0, .int a1, .int a2] [] (ev_hp I J R T) cz kz = G 145 5 [.ref 1, .int a0, .int a1, .int a2] [] (ev_hp (ev_sI I 1 (upd (I 1) 3 a0)) J R T) cz kz := by
  intro G
  rfl
set_option maxRecDepth 100000 in
theorem bc_r1 {a0 : Int32} {a1 : Int32} {a2 : Int32} : ∀ G : ez_F, fx_up X 3 G 145 5 [.ref 1, .int a0, .int a1, .int a2] [] (ev_hp I J R T) cz kz = G 145 10 [.ref 1, .int a0, .int a1, .int a2] [] (ev_hp (ev_sI I 1 (upd (I 1) 4 a1)) J R T) cz kz := by
  intro G
  rfl
set_option maxRecDepth 100000 in
theorem bc_r2 {a0 : Int32} {a1 : Int32} {a2 : Int32} : ∀ G : ez_F, fx_up X 2 G 145 10 [.ref 1, .int a0, .int a1, .int a2] [] (ev_hp I J R T) cz kz = G 145 12 [.ref 1, .int a0, .int a1, .int a2] [.int a2, .ref 1] (ev_hp I J R T) cz kz := by
  intro G
  rfl
set_option maxRecDepth 100000 in
theorem bc_r3 {a0 : Int32} {a1 : Int32} {a2 : Int32} : ∀ G : ez_F, fx_up X 5 G 145 15 [.ref 1, .int a0, .int a1, .int a2] [] (ev_hp I J R T) cz kz = G 145 22 [.ref 1, .int a0, .int a1, .int a2] [] (ev_hp (ev_sI I 1 (upd (I 1) 6 (a0 * a1))) J R T) cz kz := by
  intro G
  rfl
set_option maxRecDepth 100000 in
theorem bc_r4 {a0 : Int32} {a1 : Int32} {a2 : Int32} : ∀ G : ez_F, fx_up X 3 G 145 22 [.ref 1, .int a0, .int a1, .int a2] [] (ev_hp I J R T) cz kz = G 145 27 [.ref 1, .int a0, .int a1, .int a2] [] (ev_hp (ev_sI I 1 (upd (I 1) 1 (0 : Int32))) J R T) cz kz := by
  intro G
  rfl
set_option maxRecDepth 100000 in
theorem bc_r5 {a0 : Int32} {a1 : Int32} {a2 : Int32} : ∀ G : ez_F, fx_up X 3 G 145 27 [.ref 1, .int a0, .int a1, .int a2] [] (ev_hp I J R T) cz kz = G 145 32 [.ref 1, .int a0, .int a1, .int a2] [] (ev_hp (ev_sI I 1 (upd (I 1) 2 (0 : Int32))) J R T) cz kz := by
  intro G
  rfl
set_option maxRecDepth 100000 in
theorem bc_r6 {a0 : Int32} {a1 : Int32} {a2 : Int32} : ∀ G : ez_F, fx_up X 4 G 145 32 [.ref 1, .int a0, .int a1, .int a2] [] (ev_hp I J R T) cz kz = G 145 38 [.ref 1, .int a0, .int a1, .int a2] [.int (I 1 6), .long (1 : Int64), .ref 1] (ev_hp I J R T) cz kz := by
  intro G
  rfl
set_option maxRecDepth 100000 in
theorem bc_r7 {a0 : Int32} {a1 : Int32} {a2 : Int32} {a3 : Int32} {a4 : Int64} : ∀ G : ez_F, fx_up X 4 G 145 38 [.ref 1, .int a0, .int a1, .int a2] [.int a3, .long a4, .ref 1] (ev_hp I J R T) cz kz = G 145 44 [.ref 1, .int a0, .int a1, .int a2] [] (ev_hp I (ev_sJ J 1 (vp_updL (J 1) 7 ((a4 <<< (a3.toInt64 &&& (63 : Int64))) - (1 : Int64)))) R T) cz kz := by
  intro G
  rfl
set_option maxRecDepth 100000 in
theorem bc_r8 {a0 : Int32} {a1 : Int32} {a2 : Int32} : ∀ G : ez_F, fx_up X 3 G 145 44 [.ref 1, .int a0, .int a1, .int a2] [] (ev_hp I J R T) cz kz = G 145 49 [.ref 1, .int a0, .int a1, .int a2] [] (ev_hp I (ev_sJ J 1 (vp_updL (J 1) 8 (0 : Int64))) R T) cz kz := by
  intro G
  rfl
set_option maxRecDepth 100000 in
theorem bc_r9 {a0 : Int32} {a1 : Int32} {a2 : Int32} : ∀ G : ez_F, fx_up X 2 G 145 49 [.ref 1, .int a0, .int a1, .int a2] [] (ev_hp I J R T) cz kz = G 145 52 [.ref 1, .int a0, .int a1, .int a2, .int (0 : Int32)] [] (ev_hp I J R T) cz kz := by
  intro G
  rfl
theorem bc_0 {w h b : Int32}
    (H : pw N X 145 52 [.ref 1, .int w, .int h, .int b, .int (0 : Int32)] [] (ev_hp (ev_sI (ev_sI (ev_sI (ev_sI (ev_sI (ev_sI I 1 (upd (I 1) 3 w)) 1 (upd (upd (I 1) 3 w) 4 h)) 1 (upd (upd (upd (I 1) 3 w) 4 h) 5 b)) 1 (upd (upd (upd (upd (I 1) 3 w) 4 h) 5 b) 6 (w * h))) 1 (upd (upd (upd (upd (upd (I 1) 3 w) 4 h) 5 b) 6 (w * h)) 1 (0 : Int32))) 1 (upd (upd (upd (upd (upd (upd (I 1) 3 w) 4 h) 5 b) 6 (w * h)) 1 (0 : Int32)) 2 (0 : Int32))) (ev_sJ (ev_sJ J 1 (vp_updL (J 1) 7 (((1 : Int64) <<< ((w * h).toInt64 &&& (63 : Int64))) - (1 : Int64)))) 1 (vp_updL (vp_updL (J 1) 7 (((1 : Int64) <<< ((w * h).toInt64 &&& (63 : Int64))) - (1 : Int64))) 8 (0 : Int64))) R T) Q) : pw (N + 1) X 145 0 [.ref 1, .int w, .int h, .int b] [] (ev_hp I J R T) Q := by
  refine pw_seg (by decide) (fun _ _ => bc_r0) ?_
  refine pw_p (pw_seg (by decide) (fun _ _ => bc_r1) ?_)
  refine pw_p (pw_seg (by decide) (fun _ _ => bc_r2) ?_)
  refine pw_p (pw_putf (by rfl) (cx_getC (n := 0) (show cx_Ds[1]? = some (0 + 2, 9, _) from rfl)) (cx_setF (n := 0) (k := 5) (show cx_Ds[1]? = some (0 + 2, 9, _) from rfl) rfl _) ?_)
  refine pw_p (pw_seg (by decide) (fun _ _ => bc_r3) ?_)
  refine pw_p (pw_seg (by decide) (fun _ _ => bc_r4) ?_)
  refine pw_p (pw_seg (by decide) (fun _ _ => bc_r5) ?_)
  refine pw_p (pw_seg (by decide) (fun _ _ => bc_r6) ?_)
  refine pw_p (pw_seg (by decide) (fun _ _ => bc_r7) ?_)
  refine pw_p (pw_seg (by decide) (fun _ _ => bc_r8) ?_)
  refine pw_p (pw_seg (by decide) (fun _ _ => bc_r9) ?_)
  exact H
set_option maxRecDepth 100000 in
theorem bc_r10 {a0 : Int32} {a1 : Int32} {a2 : Int32} {a3 : Int32} : ∀ G : ez_F, fx_up X 3 G 145 52 [.ref 1, .int a0, .int a1, .int a2, .int a3] [] (ev_hp I J R T) cz kz = bif decide (a1 ≤ a3) then G 145 79 [.ref 1, .int a0, .int a1, .int a2, .int a3] [] (ev_hp I J R T) cz kz else G 145 58 [.ref 1, .int a0, .int a1, .int a2, .int a3] [] (ev_hp I J R T) cz kz := by
  intro G
  rfl
set_option maxRecDepth 100000 in
theorem bc_r11 {a0 : Int32} {a1 : Int32} {a2 : Int32} {a3 : Int32} : ∀ G : ez_F, fx_up X 3 G 145 79 [.ref 1, .int a0, .int a1, .int a2, .int a3] [] (ev_hp I J R T) cz kz = G 145 84 [.ref 1, .int a0, .int a1, .int a2, .int a3] [.long (J 1 8), .ref 1] (ev_hp I J R T) cz kz := by
  intro G
  rfl
set_option maxRecDepth 100000 in
theorem bc_r12 {a0 : Int32} {a1 : Int32} {a2 : Int32} {a3 : Int32} {a4 : Int64} : ∀ G : ez_F, fx_up X 5 G 145 84 [.ref 1, .int a0, .int a1, .int a2, .int a3] [.long a4, .ref 1] (ev_hp I J R T) cz kz = G 145 91 [.ref 1, .int a0, .int a1, .int a2, .int a3] [] (ev_hp I (ev_sJ J 1 (vp_updL (J 1) 9 (a4 <<< ((a0 - (1 : Int32)).toInt64 &&& (63 : Int64))))) R T) cz kz := by
  intro G
  rfl
set_option maxRecDepth 100000 in
theorem bc_r13 {a0 : Int32} {a1 : Int32} {a2 : Int32} {a3 : Int32} : ∀ G : ez_F, fx_up X 1 G 145 91 [.ref 1, .int a0, .int a1, .int a2, .int a3] [] (ev_hp I J R T) cz kz = some (none, (ev_hp I J R T), cz, kz) := by
  intro G
  rfl
set_option maxRecDepth 100000 in
theorem bc_r14 {a0 : Int32} {a1 : Int32} {a2 : Int32} {a3 : Int32} : ∀ G : ez_F, fx_up X 3 G 145 58 [.ref 1, .int a0, .int a1, .int a2, .int a3] [] (ev_hp I J R T) cz kz = G 145 63 [.ref 1, .int a0, .int a1, .int a2, .int a3] [.long (J 1 8), .ref 1] (ev_hp I J R T) cz kz := by
  intro G
  rfl
set_option maxRecDepth 100000 in
theorem bc_r15 {a0 : Int32} {a1 : Int32} {a2 : Int32} {a3 : Int32} {a4 : Int64} : ∀ G : ez_F, fx_up X 7 G 145 63 [.ref 1, .int a0, .int a1, .int a2, .int a3] [.long a4, .ref 1] (ev_hp I J R T) cz kz = G 145 73 [.ref 1, .int a0, .int a1, .int a2, .int a3] [] (ev_hp I (ev_sJ J 1 (vp_updL (J 1) 8 (a4 ||| ((1 : Int64) <<< ((a0 * a3).toInt64 &&& (63 : Int64)))))) R T) cz kz := by
  intro G
  rfl
set_option maxRecDepth 100000 in
theorem bc_r16 {a0 : Int32} {a1 : Int32} {a2 : Int32} {a3 : Int32} : ∀ G : ez_F, fx_up X 2 G 145 73 [.ref 1, .int a0, .int a1, .int a2, .int a3] [] (ev_hp I J R T) cz kz = G 145 52 [.ref 1, .int a0, .int a1, .int a2, .int (a3 + (1 : Int32))] [] (ev_hp I J R T) cz kz := by
  intro G
  rfl
theorem bc_52 {w h b y : Int32}
    (H : ((h ≤ y → Q none (ev_hp I (ev_sJ J 1 (vp_updL (J 1) 9 ((J 1 8) <<< ((w - (1 : Int32)).toInt64 &&& (63 : Int64))))) R T)) ∧ (¬ (h ≤ y) → pw N X 145 52 [.ref 1, .int w, .int h, .int b, .int (y + (1 : Int32))] [] (ev_hp I (ev_sJ J 1 (vp_updL (J 1) 8 ((J 1 8) ||| ((1 : Int64) <<< ((w * y).toInt64 &&& (63 : Int64)))))) R T) Q))) : pw (N + 1) X 145 52 [.ref 1, .int w, .int h, .int b, .int y] [] (ev_hp I J R T) Q := by
  refine pw_if (by decide) (fun _ _ => bc_r10) (fun w1 => ?_) (fun w1 => ?_)
  · have h1 := H.1 w1
    refine pw_p (pw_seg (by decide) (fun _ _ => bc_r11) ?_)
    refine pw_p (pw_seg (by decide) (fun _ _ => bc_r12) ?_)
    exact pw_p (pw_ret (by decide) (fun _ _ => bc_r13) h1)
  · have h1 := H.2 w1
    refine pw_p (pw_seg (by decide) (fun _ _ => bc_r14) ?_)
    refine pw_p (pw_seg (by decide) (fun _ _ => bc_r15) ?_)
    refine pw_p (pw_seg (by decide) (fun _ _ => bc_r16) ?_)
    exact h1
end
/-- the paper's sets are those of its cells -/
noncomputable def mk (I : Nat → Nat → Int32) (J : Nat → Nat → Int64) : Prop := I 1 6 = I 1 3 * I 1 4 ∧ J 1 7 = al_F (I 1 6) ∧ J 1 8 = fc_F (I 1 3) (I 1 4) ∧ J 1 9 = lc_F (I 1 3) (I 1 4)
section
variable {X : ez_X} {I : Nat → Nat → Int32} {J : Nat → Nat → Int64} {R : Nat → Nat} {T : List ez_C} {w h b : Int32}
noncomputable def bc_I (I : Nat → Nat → Int32) (w h b : Int32) : Nat → Nat → Int32 := ev_sI I 1 (upd (upd (upd (upd (upd (upd (I 1) 3 w) 4 h) 5 b) 6 (w * h)) 1 0) 2 0)
theorem bc_loop : ∀ (r : Nat) (y : Int32) (I' : Nat → Nat → Int32) (J' : Nat → Nat → Int64), y.toInt + r = h.toInt → 0 ≤ y.toInt → y.toInt < 100 → h.toInt ≤ 6 → fc_L w r y (J' 1 8) = fc_F w h → J' 1 7 = al_F (w * h) → (∀ a, a ≠ 1 → J' a = J a) → ∀ N,
    pw N X 145 52 [.ref 1, .int w, .int h, .int b, .int y] [] (ev_hp I' J' R T) (fun r hp => r = none ∧ ∃ J2, hp = ev_hp I' J2 R T ∧ J2 1 7 = al_F (w * h) ∧ J2 1 8 = fc_F w h ∧ J2 1 9 = lc_F w h ∧ ∀ a, a ≠ 1 → J2 a = J a) := by
  intro r
  induction r with
  | zero =>
    intro y I' J' hy h0 h9 h6 hf h7 hJ N
    refine pw_p (bc_52 ⟨fun _ => ?_, fun z => absurd (Int32.le_iff_toInt_le.mpr (by omega)) z⟩)
    have e8 : J' 1 8 = fc_F w h := hf
    refine ⟨rfl, _, rfl, ?_, ?_, ?_, fun a ha => by rw [cx_sJ_n _ _ ha]; exact hJ a ha⟩
    · rw [cx_sJ_s, updL_n _ _ (by decide)]
      exact h7
    · rw [cx_sJ_s, updL_n _ _ (by decide)]
      exact e8
    · rw [cx_sJ_s, updL_s, e8]
      rfl
  | succ r ih =>
    intro y I' J' hy h0 h9 h6 hf h7 hJ N
    refine pw_p (bc_52 ⟨fun z => ?_, fun _ => ?_⟩)
    · rw [Int32.le_iff_toInt_le] at z
      omega
    · have e1 := i_inc (x := y) (by omega)
      refine ih (y + 1) I' _ (by omega) (by omega) (by omega) h6 ?_ ?_ (fun a ha => by rw [cx_sJ_n _ _ ha]; exact hJ a ha) N
      · rw [cx_sJ_s, updL_s]
        exact hf
      · rw [cx_sJ_s, updL_n _ _ (by decide)]
        exact h7
theorem pe_become (hh : 2 ≤ h.toInt ∧ h.toInt ≤ 6) (N : Nat) : pe N X 145 [.ref 1, .int w, .int h, .int b] (ev_hp I J R T) (fun r hp => r = none ∧ ∃ J2, hp = ev_hp (bc_I I w h b) J2 R T ∧ J2 1 7 = al_F (w * h) ∧ J2 1 8 = fc_F w h ∧ J2 1 9 = lc_F w h ∧ ∀ a, a ≠ 1 → J2 a = J a) := by
  refine pe_of (pw_p (bc_0 ?_))
  simp only [sI2, fs_sJ2]
  refine bc_loop h.toInt.toNat 0 (bc_I I w h b) _ (by rw [show (0 : Int32).toInt = 0 from by decide]; omega) (by decide) (by decide) hh.2 ?_ ?_ (fun a ha => by rw [cx_sJ_n _ _ ha]) N
  · rw [cx_sJ_s, updL_s]
    rfl
  · rw [cx_sJ_s, updL_n _ _ (by decide), updL_s]
    rfl
end
end
section
/-! The class finds all layings. -/
section
variable {N : Nat} {X : ez_X} {I : Nat → Nat → Int32} {J : Nat → Nat → Int64} {R : Nat → Nat} {T : List ez_C} {Q : pw_Q} {cz kz : Nat}
set_option maxRecDepth 100000 in
theorem cb_r0  : ∀ G : ez_F, fx_up X 3 G 89 0 [.ref 3] [] (ev_hp I J R T) cz kz = ev_C G 94 [.ref 3, .int (0 : Int32)] (ev_hp I J R T) fun r h1 c1 k1 => G 89 5 [.ref 3] (r.toList ++ []) h1 (cz + c1) (kz + k1) := by
  intro G
  rfl
set_option maxRecDepth 100000 in
theorem cb_r1 {a0 : Int32} : ∀ G : ez_F, fx_up X 3 G 89 5 [.ref 3] [.int a0] (ev_hp I J R T) cz kz = ev_C G 94 [.ref 3, .int (1 : Int32)] (ev_hp I J R T) fun r h1 c1 k1 => G 89 10 [.ref 3] (r.toList ++ [.int a0]) h1 (cz + c1) (kz + k1) := by
  intro G
  rfl
set_option maxRecDepth 100000 in
theorem cb_r2 {a0 : Int32} {a1 : Int32} : ∀ G : ez_F, fx_up X 4 G 89 10 [.ref 3] [.int a0, .int a1] (ev_hp I J R T) cz kz = ev_C G 94 [.ref 3, .int (2 : Int32)] (ev_hp I J R T) fun r h1 c1 k1 => G 89 16 [.ref 3] (r.toList ++ [.int (a1 * a0)]) h1 (cz + c1) (kz + k1) := by
  intro G
  rfl
set_option maxRecDepth 100000 in
theorem cb_r3 {a0 : Int32} {a1 : Int32} : ∀ G : ez_F, fx_up X 2 G 89 16 [.ref 3] [.int a0, .int a1] (ev_hp I J R T) cz kz = some (some (.int (a1 * a0)), (ev_hp I J R T), cz, kz) := by
  intro G
  rfl
theorem cb_0 
    (H : Q (some (.int (((sz_F I (0 : Int32)) * (sz_F I (1 : Int32))) * (sz_F I (2 : Int32))))) (ev_hp I J R T)) : pw (N + 1) X 89 0 [.ref 3] [] (ev_hp I J R T) Q := by
  refine pw_callp (by decide) (fun _ _ => cb_r0) (pe_sizeOf) ?_
  refine pw_p (pw_callp (by decide) (fun _ _ => cb_r1) (pe_sizeOf) ?_)
  refine pw_p (pw_callp (by decide) (fun _ _ => cb_r2) (pe_sizeOf) ?_)
  exact pw_p (pw_ret (by decide) (fun _ _ => cb_r3) H)
end
noncomputable def cb_F (I : Nat → Nat → Int32) : Int32 := (sz_F I 0 * sz_F I 1) * sz_F I 2
section
variable {N : Nat} {X : ez_X} {I : Nat → Nat → Int32} {J : Nat → Nat → Int64} {R : Nat → Nat} {T : List ez_C}
theorem pe_comb : pe N X 89 [.ref 3] (ev_hp I J R T) (fun r h => r = some (.int (cb_F I)) ∧ h = ev_hp I J R T) := pe_of (pw_p (cb_0 ⟨rfl, rfl⟩))
/-- a row of ints made anew, or none yet -/
noncomputable def rowT (p : Nat) (T : List ez_C) (n : Nat) (f : Nat → Int32) : Prop := (n = 0 ∧ ∃ t, cx_Ds[p]? = some (0, 0, t)) ∨ (65 ≤ p ∧ T[p - 65]? = some (.inl (n, .inl f)))
/-- all rows but one are as they were -/
noncomputable def keepT (x : Nat) (T T' : List ez_C) : Prop := T'.length = T.length ∧ ∀ j, j + 65 ≠ x → T'[j]? = T[j]?
theorem keepT_r (x : Nat) (T : List ez_C) : keepT x T T := ⟨rfl, fun _ _ => rfl⟩
theorem keepT_t {x : Nat} {T T' T'' : List ez_C} (h : keepT x T T') (h' : keepT x T' T'') : keepT x T T'' := ⟨h'.1.trans h.1, fun j hj => (h'.2 j hj).trans (h.2 j hj)⟩
theorem rowT_hp {p n : Nat} {f : Nat → Int32} (h : rowT p T n f) : ∃ f', (ev_hp I J R T)[p]? = some (.inl (n, .inl f')) ∧ (n = 0 ∨ f' = f) := by
  rcases h with ⟨rfl, t, h⟩ | ⟨h1, h2⟩
  · exact ⟨I p, cx_getI h, Or.inl rfl⟩
  · exact ⟨f, by rw [cx_tlen rfl h1]; exact h2, Or.inr rfl⟩
theorem rowT_of {p n : Nat} (h : cx_rowl T 0 p n) : ∃ f, rowT p T n f := by
  rcases h with ⟨-, rfl, t, h⟩ | ⟨h0, x, h1, h2⟩
  · exact ⟨fun _ => 0, Or.inl ⟨rfl, t, h⟩⟩
  · rcases h2 with ⟨-, f, rfl⟩ | ⟨h, -⟩
    · exact ⟨f, Or.inr ⟨h0, h1⟩⟩
    · cases h
theorem pe_putR {p n : Nat} {f : Nat → Int32} {i x : Int32} (h : rowT p T n f) (hn : n < 2 ^ 31) : pe N X 38 [.ref p, .int i, .int x] (ev_hp I J R T) (fun r h => r = none ∧ ∃ T', h = ev_hp I J R T' ∧ rowT p T' n (ev_put n f i x) ∧ keepT p T T') := by
  rcases h with ⟨rfl, t, h⟩ | ⟨h1, h2⟩
  · have hg := cx_getI (I := I) (J := J) (R := R) (T := T) h
    refine pe_mono (pe_is (ec_put X _ 0 p i x (I p) hg hn)) ?_
    rintro r h1 ⟨rfl, rfl⟩
    rw [ev_put0, ev_set_self hg]
    exact ⟨rfl, T, rfl, Or.inl ⟨rfl, t, h⟩, keepT_r _ _⟩
  · have hg : (ev_hp I J R T)[p]? = some (.inl (n, .inl f)) := by rw [cx_tlen rfl h1]; exact h2
    refine pe_mono (pe_is (ec_put X _ n p i x f hg hn)) ?_
    rintro r h3 ⟨rfl, rfl⟩
    rw [cx_setT h1]
    refine ⟨rfl, _, rfl, Or.inr ⟨h1, ?_⟩, by simp, fun j hj => ?_⟩
    · rw [List.getElem?_set_self (List.getElem?_eq_some_iff.mp h2).1]
    · rw [List.getElem?_set_ne (by omega)]
theorem pe_atR {p n : Nat} {f : Nat → Int32} {i : Int32} (h : rowT p T n f) (hn : n < 2 ^ 31) : pe N X 3 [.ref p, .int i] (ev_hp I J R T) (fun r h => r = some (.int (ev_at n f i)) ∧ h = ev_hp I J R T) := by
  obtain ⟨f', h1, h2⟩ := rowT_hp (I := I) (J := J) (R := R) h
  refine pe_mono (pe_is (ec_at X _ n p i f' h1 hn)) ?_
  rintro r h3 ⟨rfl, rfl⟩
  refine ⟨?_, rfl⟩
  rcases h2 with rfl | rfl
  · have e0 : ∀ g : Nat → Int32, ev_at 0 g i = 0 := fun g => by
      unfold ev_at
      split
      · rfl
      · split
        · rfl
        · rename_i a b
          exact absurd (Int32.not_lt.mp a) b
    rw [e0, e0]
  · rfl
theorem pw_new {m pc a b cut w d n : Nat} {ls st : List Value} {Q : pw_Q} (hP : ez_P0 m pc = some (.newarray .int, 2, a, b, cut, w, d)) (hn : n < 1000000) (e : pw N X m (pc + 2) (ez_cut cut ls) (.ref (65 + T.length) :: st) (ev_hp I J R (T ++ [.inl (n, .inl fun _ => 0)])) Q) : pw (N + 1) X m pc ls (.int (Int32.ofNat n) :: st) (ev_hp I J R T) Q :=
  pw_up (a := 1) (by decide) fun c k F hF r h1 c1 k1 hz => by
    rw [ev_up1] at hz
    unfold ez_stp at hz
    rw [hP] at hz
    dsimp only at hz
    obtain ⟨-, hz⟩ := ez_bifN hz
    rw [ix_cl (by omega)] at hz
    have el : (ev_hp I J R T).length = 65 + T.length := by
      rw [cx_hp_is, List.length_append, cx_mk_len]
      rfl
    have ea : ev_hp I J R T ++ [.inl (n, .inl fun _ => 0)] = ev_hp I J R (T ++ [.inl (n, .inl fun _ => 0)]) := by
      rw [cx_hp_is, cx_hp_is, List.append_assoc]
    rw [el, ea] at hz
    exact e _ _ F hF r h1 c1 k1 hz
end
/-! The layings, in order: by the spot of the first ship, the second's, the third's. -/
abbrev ly_t : Type := Nat × Nat × Nat
noncomputable def ly_3 (q : Nat → Nat → Nat → Bool) (a b : Nat) : Nat → List ly_t
  | 0 => []
  | c + 1 => ly_3 q a b c ++ (bif q a b c then [(a, b, c)] else [])
noncomputable def ly_2 (p : Nat → Nat → Bool) (q : Nat → Nat → Nat → Bool) (n2 a : Nat) : Nat → List ly_t
  | 0 => []
  | b + 1 => ly_2 p q n2 a b ++ (bif p a b then ly_3 q a b n2 else [])
noncomputable def ly_1 (p : Nat → Nat → Bool) (q : Nat → Nat → Nat → Bool) (n1 n2 : Nat) : Nat → List ly_t
  | 0 => []
  | a + 1 => ly_1 p q n1 n2 a ++ ly_2 p q n2 a n1
theorem ly_3l (q : Nat → Nat → Nat → Bool) (a b : Nat) : ∀ c, (ly_3 q a b c).length ≤ c := by
  intro c
  induction c with
  | zero => exact Nat.le_refl 0
  | succ c ih =>
    unfold ly_3
    rw [List.length_append]
    cases q a b c
    · simp only [cond_false, List.length_nil]; omega
    · simp only [cond_true, List.length_cons, List.length_nil]; omega
theorem ly_2l (p : Nat → Nat → Bool) (q : Nat → Nat → Nat → Bool) (n2 a : Nat) : ∀ b, (ly_2 p q n2 a b).length ≤ b * n2 := by
  intro b
  induction b with
  | zero => exact Nat.zero_le _
  | succ b ih =>
    unfold ly_2
    rw [List.length_append, Nat.succ_mul]
    have := ly_3l q a b n2
    cases p a b
    · simp only [cond_false, List.length_nil]; omega
    · simp only [cond_true]; omega
theorem ly_1l (p : Nat → Nat → Bool) (q : Nat → Nat → Nat → Bool) (n1 n2 : Nat) : ∀ a, (ly_1 p q n1 n2 a).length ≤ a * (n1 * n2) := by
  intro a
  induction a with
  | zero => exact Nat.zero_le _
  | succ a ih =>
    unfold ly_1
    rw [List.length_append, Nat.succ_mul]
    have := ly_2l p q n2 a n1
    omega
noncomputable def ly_c (t : ly_t) : Int32 := (((Int32.ofNat t.1 <<< ((9 : Int32) &&& (31 : Int32))) ||| Int32.ofNat t.2.1) <<< ((9 : Int32) &&& (31 : Int32))) ||| Int32.ofNat t.2.2
/-- the first numbers of a row are a list's -/
noncomputable def ly_row (f : Nat → Int32) (L : List ly_t) : Prop := ∀ (k : Nat) (h : k < L.length), f k = ly_c L[k]
theorem ly_row_add {f : Nat → Int32} {L : List ly_t} {t : ly_t} (h : ly_row f L) : ly_row (upd f L.length (ly_c t)) (L ++ [t]) := by
  intro k hk
  rw [List.length_append, List.length_singleton] at hk
  by_cases h2 : k < L.length
  · rw [upd_n _ _ (by omega), List.getElem_append_left h2]
    exact h k h2
  · obtain rfl : k = L.length := by omega
    rw [upd_s]
    simp
section
variable {N : Nat} {X : ez_X} {I : Nat → Nat → Int32} {J : Nat → Nat → Int64} {R : Nat → Nat} {T : List ez_C} {Q : pw_Q} {cz kz : Nat}
set_option maxRecDepth 100000 in
theorem se_r0 {a0 : Int32} {a1 : Int64} : ∀ G : ez_F, fx_up X 4 G 142 0 [.ref 6, .int a0, .long a1, ez_fill] [] (ev_hp I J R T) cz kz = ev_C G 94 [.ref 3, .int (2 : Int32)] (ev_hp I J R T) fun r h1 c1 k1 => G 142 8 [.ref 6, .int a0, .long a1, ez_fill] (r.toList ++ []) h1 (cz + c1) (kz + k1) := by
  intro G
  rfl
set_option maxRecDepth 100000 in
theorem se_r1 {a0 : Int32} {a1 : Int64} {a2 : Int32} : ∀ G : ez_F, fx_up X 3 G 142 8 [.ref 6, .int a0, .long a1, ez_fill] [.int a2] (ev_hp I J R T) cz kz = G 142 13 [.ref 6, .int a0, .long a1, ez_fill, .int a2, .int (0 : Int32)] [] (ev_hp I J R T) cz kz := by
  intro G
  rfl
theorem s3_0 {z : Int32} {bd : Int64}
    (H : pw N X 142 13 [.ref 6, .int z, .long bd, ez_fill, .int (sz_F I (2 : Int32)), .int (0 : Int32)] [] (ev_hp I J R T) Q) : pw (N + 1) X 142 0 [.ref 6, .int z, .long bd, ez_fill] [] (ev_hp I J R T) Q := by
  refine pw_callp (by decide) (fun _ _ => se_r0) (pe_sizeOf) ?_
  refine pw_p (pw_seg (by decide) (fun _ _ => se_r1) ?_)
  exact H
set_option maxRecDepth 100000 in
theorem se_r2 {a0 : Int32} {a1 : Int64} {a2 : Int32} {a3 : Int32} : ∀ G : ez_F, fx_up X 3 G 142 13 [.ref 6, .int a0, .long a1, ez_fill, .int a2, .int a3] [] (ev_hp I J R T) cz kz = bif decide (a2 ≤ a3) then G 142 71 [.ref 6, .int a0, .long a1, ez_fill, .int a2, .int a3] [] (ev_hp I J R T) cz kz else G 142 20 [.ref 6, .int a0, .long a1, ez_fill, .int a2, .int a3] [] (ev_hp I J R T) cz kz := by
  intro G
  rfl
set_option maxRecDepth 100000 in
theorem se_r3 {a0 : Int32} {a1 : Int64} {a2 : Int32} {a3 : Int32} : ∀ G : ez_F, fx_up X 1 G 142 71 [.ref 6, .int a0, .long a1, ez_fill, .int a2, .int a3] [] (ev_hp I J R T) cz kz = some (none, (ev_hp I J R T), cz, kz) := by
  intro G
  rfl
set_option maxRecDepth 100000 in
theorem se_r4 {a0 : Int32} {a1 : Int64} {a2 : Int32} {a3 : Int32} : ∀ G : ez_F, fx_up X 5 G 142 20 [.ref 6, .int a0, .long a1, ez_fill, .int a2, .int a3] [] (ev_hp I J R T) cz kz = ev_C G 86 [.ref 3, .int (2 : Int32), .int a3] (ev_hp I J R T) fun r h1 c1 k1 => G 142 30 [.ref 6, .int a0, .long a1, ez_fill, .int a2, .int a3] (r.toList ++ []) h1 (cz + c1) (kz + k1) := by
  intro G
  rfl
set_option maxRecDepth 100000 in
theorem se_r5 {a0 : Int32} {a1 : Int64} {a2 : Int32} {a3 : Int32} {a4 : Int64} : ∀ G : ez_F, fx_up X 5 G 142 30 [.ref 6, .int a0, .long a1, ez_fill, .int a2, .int a3] [.long a4] (ev_hp I J R T) cz kz = bif decide (¬ (lg_cmp (a4 &&& a1) (0 : Int64)) = (0 : Int32)) then G 142 65 [.ref 6, .int a0, .long a1, ez_fill, .int a2, .int a3] [] (ev_hp I J R T) cz kz else G 142 37 [.ref 6, .int a0, .long a1, ez_fill, .int a2, .int a3] [] (ev_hp I J R T) cz kz := by
  intro G
  rfl
set_option maxRecDepth 100000 in
theorem se_r6 {a0 : Int32} {a1 : Int64} {a2 : Int32} {a3 : Int32} : ∀ G : ez_F, fx_up X 2 G 142 65 [.ref 6, .int a0, .long a1, ez_fill, .int a2, .int a3] [] (ev_hp I J R T) cz kz = G 142 13 [.ref 6, .int a0, .long a1, ez_fill, .int a2, .int (a3 + (1 : Int32))] [] (ev_hp I J R T) cz kz := by
  intro G
  rfl
set_option maxRecDepth 100000 in
theorem se_r7 {a0 : Int32} {a1 : Int64} {a2 : Int32} {a3 : Int32} : ∀ G : ez_F, fx_up X 2 G 142 37 [.ref 6, .int a0, .long a1, ez_fill, .int a2, .int a3] [] (ev_hp I J R T) cz kz = G 142 41 [.ref 6, .int a0, .long a1, ez_fill, .int a2, .int a3] [.ref (R 0)] (ev_hp I J R T) cz kz := by
  intro G
  rfl
set_option maxRecDepth 100000 in
theorem se_r8 {a0 : Int32} {a1 : Int64} {a2 : Int32} {a3 : Int32} {a4 : Nat} : ∀ G : ez_F, fx_up X 2 G 142 41 [.ref 6, .int a0, .long a1, ez_fill, .int a2, .int a3] [.ref a4] (ev_hp I J R T) cz kz = G 142 45 [.ref 6, .int a0, .long a1, ez_fill, .int a2, .int a3] [.int (I 6 3), .ref a4] (ev_hp I J R T) cz kz := by
  intro G
  rfl
set_option maxRecDepth 100000 in
theorem se_r9 {a0 : Int32} {a1 : Int64} {a2 : Int32} {a3 : Int32} {a4 : Int32} {a5 : Nat} : ∀ G : ez_F, fx_up X 6 G 142 45 [.ref 6, .int a0, .long a1, ez_fill, .int a2, .int a3] [.int a4, .ref a5] (ev_hp I J R T) cz kz = ev_C G 38 [.ref a5, .int a4, .int ((a0 <<< ((9 : Int32) &&& (31 : Int32))) ||| a3)] (ev_hp I J R T) fun r h1 c1 k1 => G 142 55 [.ref 6, .int a0, .long a1, ez_fill, .int a2, .int a3] (r.toList ++ []) h1 (cz + c1) (kz + k1) := by
  intro G
  rfl
theorem s3_13 {z n c : Int32} {bd : Int64}
    (H : ((n ≤ c → Q none (ev_hp I J R T)) ∧ (¬ (n ≤ c) → ((¬ (lg_cmp ((cl_F I J (2 : Int32) c) &&& bd) (0 : Int64)) = (0 : Int32) → pw N X 142 13 [.ref 6, .int z, .long bd, ez_fill, .int n, .int (c + (1 : Int32))] [] (ev_hp I J R T) Q) ∧ (¬ (¬ (lg_cmp ((cl_F I J (2 : Int32) c) &&& bd) (0 : Int64)) = (0 : Int32)) → (∃ Q1 : pw_Q, pe N X 38 [.ref (R 0), .int (I 6 3), .int ((z <<< ((9 : Int32) &&& (31 : Int32))) ||| c)] (ev_hp I J R T) Q1 ∧ ∀ (r : Option Value) (h1 : ez_H), Q1 r h1 → pw N X 142 55 [.ref 6, .int z, .long bd, ez_fill, .int n, .int c] (r.toList ++ []) h1 Q)))))) : pw (N + 1) X 142 13 [.ref 6, .int z, .long bd, ez_fill, .int n, .int c] [] (ev_hp I J R T) Q := by
  refine pw_if (by decide) (fun _ _ => se_r2) (fun w1 => ?_) (fun w1 => ?_)
  · have h1 := H.1 w1
    exact pw_p (pw_ret (by decide) (fun _ _ => se_r3) h1)
  · have h1 := H.2 w1
    refine pw_p (pw_callp (by decide) (fun _ _ => se_r4) (pe_cellsAt) ?_)
    refine pw_p (pw_if (by decide) (fun _ _ => se_r5) (fun w2 => ?_) (fun w2 => ?_))
    · have h2 := h1.1 w2
      refine pw_p (pw_seg (by decide) (fun _ _ => se_r6) ?_)
      exact h2
    · have h2 := h1.2 w2
      refine pw_p (pw_seg (by decide) (fun _ _ => se_r7) ?_)
      refine pw_p (pw_seg (by decide) (fun _ _ => se_r8) ?_)
      obtain ⟨Q1, hc, hk⟩ := h2
      exact pw_p (pw_call (by decide) (fun _ _ => se_r9) hc hk)
set_option maxRecDepth 100000 in
theorem se_r10 {a0 : Int32} {a1 : Int64} {a2 : Int32} {a3 : Int32} : ∀ G : ez_F, fx_up X 3 G 142 55 [.ref 6, .int a0, .long a1, ez_fill, .int a2, .int a3] [] (ev_hp I J R T) cz kz = G 142 60 [.ref 6, .int a0, .long a1, ez_fill, .int a2, .int a3] [.int (I 6 3), .ref 6] (ev_hp I J R T) cz kz := by
  intro G
  rfl
set_option maxRecDepth 100000 in
theorem se_r11 {a0 : Int32} {a1 : Int64} {a2 : Int32} {a3 : Int32} {a4 : Int32} : ∀ G : ez_F, fx_up X 3 G 142 60 [.ref 6, .int a0, .long a1, ez_fill, .int a2, .int a3] [.int a4, .ref 6] (ev_hp I J R T) cz kz = G 142 65 [.ref 6, .int a0, .long a1, ez_fill, .int a2, .int a3] [] (ev_hp (ev_sI I 6 (upd (I 6) 3 (a4 + (1 : Int32)))) J R T) cz kz := by
  intro G
  rfl
theorem s3_55 {z n c : Int32} {bd : Int64}
    (H : pw N X 142 13 [.ref 6, .int z, .long bd, ez_fill, .int n, .int (c + (1 : Int32))] [] (ev_hp (ev_sI I 6 (upd (I 6) 3 ((I 6 3) + (1 : Int32)))) J R T) Q) : pw (N + 1) X 142 55 [.ref 6, .int z, .long bd, ez_fill, .int n, .int c] [] (ev_hp I J R T) Q := by
  refine pw_seg (by decide) (fun _ _ => se_r10) ?_
  refine pw_p (pw_seg (by decide) (fun _ _ => se_r11) ?_)
  refine pw_p (pw_seg (by decide) (fun _ _ => se_r6) ?_)
  exact H
set_option maxRecDepth 100000 in
theorem se_r12 {a0 : Int32} {a1 : Int64} : ∀ G : ez_F, fx_up X 4 G 141 0 [.ref 6, .int a0, .long a1, ez_fill] [] (ev_hp I J R T) cz kz = ev_C G 94 [.ref 3, .int (1 : Int32)] (ev_hp I J R T) fun r h1 c1 k1 => G 141 8 [.ref 6, .int a0, .long a1, ez_fill] (r.toList ++ []) h1 (cz + c1) (kz + k1) := by
  intro G
  rfl
set_option maxRecDepth 100000 in
theorem se_r13 {a0 : Int32} {a1 : Int64} {a2 : Int32} : ∀ G : ez_F, fx_up X 3 G 141 8 [.ref 6, .int a0, .long a1, ez_fill] [.int a2] (ev_hp I J R T) cz kz = G 141 13 [.ref 6, .int a0, .long a1, ez_fill, .int a2, .int (0 : Int32)] [] (ev_hp I J R T) cz kz := by
  intro G
  rfl
theorem s2_0 {z : Int32} {bd : Int64}
    (H : pw N X 141 13 [.ref 6, .int z, .long bd, ez_fill, .int (sz_F I (1 : Int32)), .int (0 : Int32)] [] (ev_hp I J R T) Q) : pw (N + 1) X 141 0 [.ref 6, .int z, .long bd, ez_fill] [] (ev_hp I J R T) Q := by
  refine pw_callp (by decide) (fun _ _ => se_r12) (pe_sizeOf) ?_
  refine pw_p (pw_seg (by decide) (fun _ _ => se_r13) ?_)
  exact H
set_option maxRecDepth 100000 in
theorem se_r14 {a0 : Int32} {a1 : Int64} {a2 : Int32} {a3 : Int32} : ∀ G : ez_F, fx_up X 3 G 141 13 [.ref 6, .int a0, .long a1, ez_fill, .int a2, .int a3] [] (ev_hp I J R T) cz kz = bif decide (a2 ≤ a3) then G 141 69 [.ref 6, .int a0, .long a1, ez_fill, .int a2, .int a3] [] (ev_hp I J R T) cz kz else G 141 20 [.ref 6, .int a0, .long a1, ez_fill, .int a2, .int a3] [] (ev_hp I J R T) cz kz := by
  intro G
  rfl
set_option maxRecDepth 100000 in
theorem se_r15 {a0 : Int32} {a1 : Int64} {a2 : Int32} {a3 : Int32} : ∀ G : ez_F, fx_up X 1 G 141 69 [.ref 6, .int a0, .long a1, ez_fill, .int a2, .int a3] [] (ev_hp I J R T) cz kz = some (none, (ev_hp I J R T), cz, kz) := by
  intro G
  rfl
set_option maxRecDepth 100000 in
theorem se_r16 {a0 : Int32} {a1 : Int64} {a2 : Int32} {a3 : Int32} : ∀ G : ez_F, fx_up X 5 G 141 20 [.ref 6, .int a0, .long a1, ez_fill, .int a2, .int a3] [] (ev_hp I J R T) cz kz = ev_C G 86 [.ref 3, .int (1 : Int32), .int a3] (ev_hp I J R T) fun r h1 c1 k1 => G 141 30 [.ref 6, .int a0, .long a1, ez_fill, .int a2, .int a3] (r.toList ++ []) h1 (cz + c1) (kz + k1) := by
  intro G
  rfl
set_option maxRecDepth 100000 in
theorem se_r17 {a0 : Int32} {a1 : Int64} {a2 : Int32} {a3 : Int32} {a4 : Int64} : ∀ G : ez_F, fx_up X 7 G 141 30 [.ref 6, .int a0, .long a1, ez_fill, .int a2, .int a3] [.long a4] (ev_hp I J R T) cz kz = bif decide (¬ (lg_cmp (a4 &&& a1) (0 : Int64)) = (0 : Int32)) then G 141 63 [.ref 6, .int a0, .long a1, ez_fill, .int a2, .int a3, .long a4, ez_fill] [] (ev_hp I J R T) cz kz else G 141 41 [.ref 6, .int a0, .long a1, ez_fill, .int a2, .int a3, .long a4, ez_fill] [] (ev_hp I J R T) cz kz := by
  intro G
  rfl
set_option maxRecDepth 100000 in
theorem se_r18 {a0 : Int32} {a1 : Int64} {a2 : Int32} {a3 : Int32} {a4 : Int64} : ∀ G : ez_F, fx_up X 2 G 141 63 [.ref 6, .int a0, .long a1, ez_fill, .int a2, .int a3, .long a4, ez_fill] [] (ev_hp I J R T) cz kz = G 141 13 [.ref 6, .int a0, .long a1, ez_fill, .int a2, .int (a3 + (1 : Int32)), .long a4, ez_fill] [] (ev_hp I J R T) cz kz := by
  intro G
  rfl
set_option maxRecDepth 100000 in
theorem se_r19 {a0 : Int32} {a1 : Int64} {a2 : Int32} {a3 : Int32} {a4 : Int64} : ∀ G : ez_F, fx_up X 11 G 141 41 [.ref 6, .int a0, .long a1, ez_fill, .int a2, .int a3, .long a4, ez_fill] [] (ev_hp I J R T) cz kz = ev_C G 144 [.ref 1, .long a4] (ev_hp I J R T) fun r h1 c1 k1 => G 141 59 [.ref 6, .int a0, .long a1, ez_fill, .int a2, .int a3, .long a4, ez_fill] (r.toList ++ [.long a1, .int ((a0 <<< ((9 : Int32) &&& (31 : Int32))) ||| a3), .ref 6]) h1 (cz + c1) (kz + k1) := by
  intro G
  rfl
set_option maxRecDepth 100000 in
theorem se_r20 {a0 : Int32} {a1 : Int64} {a2 : Int32} {a3 : Int32} {a4 : Int64} {a5 : Int64} {a6 : Int64} {a7 : Int32} : ∀ G : ez_F, fx_up X 2 G 141 59 [.ref 6, .int a0, .long a1, ez_fill, .int a2, .int a3, .long a4, ez_fill] [.long a5, .long a6, .int a7, .ref 6] (ev_hp I J R T) cz kz = ev_C G 142 [.ref 6, .int a7, .long (a6 ||| a5)] (ev_hp I J R T) fun r h1 c1 k1 => G 141 63 [.ref 6, .int a0, .long a1, ez_fill, .int a2, .int a3, .long a4, ez_fill] (r.toList ++ []) h1 (cz + c1) (kz + k1) := by
  intro G
  rfl
theorem s2_13 {z n c : Int32} {bd : Int64}
    (H : ((n ≤ c → Q none (ev_hp I J R T)) ∧ (¬ (n ≤ c) → ((¬ (lg_cmp ((cl_F I J (1 : Int32) c) &&& bd) (0 : Int64)) = (0 : Int32) → pw N X 141 13 [.ref 6, .int z, .long bd, ez_fill, .int n, .int (c + (1 : Int32))] [] (ev_hp I J R T) Q) ∧ (¬ (¬ (lg_cmp ((cl_F I J (1 : Int32) c) &&& bd) (0 : Int64)) = (0 : Int32)) → (∃ Q1 : pw_Q, pe N X 142 [.ref 6, .int ((z <<< ((9 : Int32) &&& (31 : Int32))) ||| c), .long (bd ||| (ar (I 1 3) (I 1 5) (I 1 6) (J 1 7) (J 1 8) (J 1 9) (I 2 0) (cl_F I J (1 : Int32) c)))] (ev_hp I J R T) Q1 ∧ ∀ (r : Option Value) (h1 : ez_H), Q1 r h1 → pw N X 141 63 [.ref 6, .int z, .long bd, ez_fill, .int n, .int c, .long (cl_F I J (1 : Int32) c), ez_fill] (r.toList ++ []) h1 Q)))))) : pw (N + 1) X 141 13 [.ref 6, .int z, .long bd, ez_fill, .int n, .int c] [] (ev_hp I J R T) Q := by
  refine pw_if (by decide) (fun _ _ => se_r14) (fun w1 => ?_) (fun w1 => ?_)
  · have h1 := H.1 w1
    exact pw_p (pw_ret (by decide) (fun _ _ => se_r15) h1)
  · have h1 := H.2 w1
    refine pw_p (pw_callp (by decide) (fun _ _ => se_r16) (pe_cellsAt) ?_)
    refine pw_p (pw_if (by decide) (fun _ _ => se_r17) (fun w2 => ?_) (fun w2 => ?_))
    · have h2 := h1.1 w2
      refine pw_p (pw_seg (by decide) (fun _ _ => se_r18) ?_)
      refine pw_cutl (by rfl) ?_
      exact h2
    · have h2 := h1.2 w2
      refine pw_p (pw_callp (by decide) (fun _ _ => se_r19) (pe_around) ?_)
      obtain ⟨Q1, hc, hk⟩ := h2
      exact pw_p (pw_call (by decide) (fun _ _ => se_r20) hc hk)
theorem s2_63 {z n c : Int32} {bd u : Int64}
    (H : pw N X 141 13 [.ref 6, .int z, .long bd, ez_fill, .int n, .int (c + (1 : Int32))] [] (ev_hp I J R T) Q) : pw (N + 1) X 141 63 [.ref 6, .int z, .long bd, ez_fill, .int n, .int c, .long u, ez_fill] [] (ev_hp I J R T) Q := by
  refine pw_seg (by decide) (fun _ _ => se_r18) ?_
  refine pw_cutl (by rfl) ?_
  exact H
set_option maxRecDepth 100000 in
theorem se_r21  : ∀ G : ez_F, fx_up X 3 G 140 0 [.ref 6] [] (ev_hp I J R T) cz kz = ev_C G 89 [.ref 3] (ev_hp I J R T) fun r h1 c1 k1 => G 140 7 [.ref 6] (r.toList ++ []) h1 (cz + c1) (kz + k1) := by
  intro G
  rfl
set_option maxRecDepth 100000 in
theorem se_r22 {a0 : Int32} : ∀ G : ez_F, fx_up X 3 G 140 7 [.ref 6] [.int a0] (ev_hp I J R T) cz kz = G 140 12 [.ref 6, .int a0] [.int (I 6 4)] (ev_hp I J R T) cz kz := by
  intro G
  rfl
set_option maxRecDepth 100000 in
theorem se_r23 {a0 : Int32} {a1 : Int32} : ∀ G : ez_F, fx_up X 1 G 140 12 [.ref 6, .int a0] [.int a1] (ev_hp I J R T) cz kz = bif decide (¬ a1 = (0 : Int32)) then G 140 22 [.ref 6, .int a0] [] (ev_hp I J R T) cz kz else G 140 15 [.ref 6, .int a0] [] (ev_hp I J R T) cz kz := by
  intro G
  rfl
set_option maxRecDepth 100000 in
theorem se_r24 {a0 : Int32} : ∀ G : ez_F, fx_up X 1 G 140 22 [.ref 6, .int a0] [] (ev_hp I J R T) cz kz = some (none, (ev_hp I J R T), cz, kz) := by
  intro G
  rfl
set_option maxRecDepth 100000 in
theorem se_r25 {a0 : Int32} : ∀ G : ez_F, fx_up X 3 G 140 15 [.ref 6, .int a0] [] (ev_hp I J R T) cz kz = bif decide (a0 ≤ (10000 : Int32)) then G 140 23 [.ref 6, .int a0] [] (ev_hp I J R T) cz kz else G 140 22 [.ref 6, .int a0] [] (ev_hp I J R T) cz kz := by
  intro G
  rfl
set_option maxRecDepth 100000 in
theorem se_r26 {a0 : Int32} : ∀ G : ez_F, fx_up X 3 G 140 23 [.ref 6, .int a0] [] (ev_hp I J R T) cz kz = G 140 28 [.ref 6, .int a0] [] (ev_hp (ev_sI I 6 (upd (I 6) 4 (1 : Int32))) J R T) cz kz := by
  intro G
  rfl
set_option maxRecDepth 100000 in
theorem se_r27 {a0 : Int32} : ∀ G : ez_F, fx_up X 3 G 140 28 [.ref 6, .int a0] [] (ev_hp I J R T) cz kz = G 140 33 [.ref 6, .int a0] [] (ev_hp (ev_sI I 6 (upd (I 6) 3 (0 : Int32))) J R T) cz kz := by
  intro G
  rfl
set_option maxRecDepth 100000 in
theorem se_r28 {a0 : Int32} : ∀ G : ez_F, fx_up X 3 G 140 33 [.ref 6, .int a0] [] (ev_hp I J R T) cz kz = G 140 38 [.ref 6, .int a0] [.ref (R 0), .int a0] (ev_hp I J R T) cz kz := by
  intro G
  rfl
theorem s1_0 
    (H : ((¬ (I 6 4) = (0 : Int32) → Q none (ev_hp I J R T)) ∧ (¬ (¬ (I 6 4) = (0 : Int32)) → (((cb_F I) ≤ (10000 : Int32) → pw N X 140 38 [.ref 6, .int (cb_F I)] [.ref (R 0), .int (cb_F I)] (ev_hp (ev_sI (ev_sI I 6 (upd (I 6) 4 (1 : Int32))) 6 (upd (upd (I 6) 4 (1 : Int32)) 3 (0 : Int32))) J R T) Q) ∧ (¬ ((cb_F I) ≤ (10000 : Int32)) → Q none (ev_hp I J R T)))))) : pw (N + 1) X 140 0 [.ref 6] [] (ev_hp I J R T) Q := by
  refine pw_callp (by decide) (fun _ _ => se_r21) (pe_comb) ?_
  refine pw_p (pw_seg (by decide) (fun _ _ => se_r22) ?_)
  refine pw_p (pw_if (by decide) (fun _ _ => se_r23) (fun w1 => ?_) (fun w1 => ?_))
  · have h1 := H.1 w1
    exact pw_p (pw_ret (by decide) (fun _ _ => se_r24) h1)
  · have h1 := H.2 w1
    refine pw_p (pw_if (by decide) (fun _ _ => se_r25) (fun w2 => ?_) (fun w2 => ?_))
    · have h2 := h1.1 w2
      refine pw_p (pw_seg (by decide) (fun _ _ => se_r26) ?_)
      refine pw_p (pw_seg (by decide) (fun _ _ => se_r27) ?_)
      refine pw_p (pw_seg (by decide) (fun _ _ => se_r28) ?_)
      exact h2
    · have h2 := h1.2 w2
      exact pw_p (pw_ret (by decide) (fun _ _ => se_r24) h2)
set_option maxRecDepth 100000 in
theorem se_r29 {a0 : Int32} {a1 : Int32} {a2 : Int32} : ∀ G : ez_F, fx_up X 1 G 140 39 [.ref 6, .int a0] [.int a1, .int a2] (ev_hp I J R T) cz kz = bif decide (a2 ≤ a1) then G 140 57 [.ref 6, .int a0] [] (ev_hp I J R T) cz kz else G 140 42 [.ref 6, .int a0] [] (ev_hp I J R T) cz kz := by
  intro G
  rfl
set_option maxRecDepth 100000 in
theorem se_r30 {a0 : Int32} : ∀ G : ez_F, fx_up X 4 G 140 57 [.ref 6, .int a0] [] (ev_hp I J R T) cz kz = ev_C G 94 [.ref 3, .int (0 : Int32)] (ev_hp I J R T) fun r h1 c1 k1 => G 140 65 [.ref 6, .int a0] (r.toList ++ []) h1 (cz + c1) (kz + k1) := by
  intro G
  rfl
set_option maxRecDepth 100000 in
theorem se_r31 {a0 : Int32} {a1 : Int32} : ∀ G : ez_F, fx_up X 3 G 140 65 [.ref 6, .int a0] [.int a1] (ev_hp I J R T) cz kz = G 140 68 [.ref 6, .int a0, .int a1, .int (0 : Int32)] [] (ev_hp I J R T) cz kz := by
  intro G
  rfl
set_option maxRecDepth 100000 in
theorem se_r32 {a0 : Int32} : ∀ G : ez_F, fx_up X 3 G 140 42 [.ref 6, .int a0] [] (ev_hp I J R T) cz kz = G 140 47 [.ref 6, .int a0] [.ref (R 0), .ref 6] (ev_hp I J R T) cz kz := by
  intro G
  rfl
theorem s1_39 {q n : Int32}
    (H : ((q ≤ n → pw N X 140 68 [.ref 6, .int q, .int (sz_F I (0 : Int32)), .int (0 : Int32)] [] (ev_hp I J R T) Q) ∧ (¬ (q ≤ n) → pw N X 140 47 [.ref 6, .int q] [.ref (R 0), .ref 6] (ev_hp I J R T) Q))) : pw (N + 1) X 140 39 [.ref 6, .int q] [.int n, .int q] (ev_hp I J R T) Q := by
  refine pw_if (by decide) (fun _ _ => se_r29) (fun w1 => ?_) (fun w1 => ?_)
  · have h1 := H.1 w1
    refine pw_p (pw_callp (by decide) (fun _ _ => se_r30) (pe_sizeOf) ?_)
    refine pw_p (pw_seg (by decide) (fun _ _ => se_r31) ?_)
    exact h1
  · have h1 := H.2 w1
    refine pw_p (pw_seg (by decide) (fun _ _ => se_r32) ?_)
    exact h1
set_option maxRecDepth 100000 in
theorem se_r33 {a0 : Int32} {a1 : Int32} : ∀ G : ez_F, fx_up X 2 G 140 48 [.ref 6, .int a0] [.int a1, .ref 6] (ev_hp I J R T) cz kz = ev_C G 19 [.int a1, .int a0] (ev_hp I J R T) fun r h1 c1 k1 => G 140 52 [.ref 6, .int a0] (r.toList ++ [.ref 6]) h1 (cz + c1) (kz + k1) := by
  intro G
  rfl
theorem s1_48 {q n : Int32}
    (H : (∃ Q1 : pw_Q, pe N X 19 [.int n, .int q] (ev_hp I J R T) Q1 ∧ ∀ (r : Option Value) (h1 : ez_H), Q1 r h1 → pw N X 140 52 [.ref 6, .int q] (r.toList ++ [.ref 6]) h1 Q)) : pw (N + 1) X 140 48 [.ref 6, .int q] [.int n, .ref 6] (ev_hp I J R T) Q := by
  obtain ⟨Q1, hc, hk⟩ := H
  exact pw_call (by decide) (fun _ _ => se_r33) hc hk
set_option maxRecDepth 100000 in
theorem se_r34 {a0 : Int32} {a1 : Nat} : ∀ G : ez_F, fx_up X 1 G 140 54 [.ref 6, .int a0] [.ref a1, .ref 6] (ev_hp I J R T) cz kz = G 140 57 [.ref 6, .int a0] [] (ev_hp I J (ev_sR R 0 a1) T) cz kz := by
  intro G
  rfl
set_option maxRecDepth 100000 in
theorem se_r35 {a0 : Int32} : ∀ G : ez_F, fx_up X 4 G 140 57 [.ref 6, .int a0] [] (ev_hp I J R T) cz kz = ev_C G 94 [.ref 3, .int (0 : Int32)] (ev_hp I J R T) fun r h1 c1 k1 => G 140 65 [.ref 6, .int a0] (r.toList ++ []) h1 (cz + c1) (kz + k1) := by
  intro G
  rfl
set_option maxRecDepth 100000 in
theorem se_r36 {a0 : Int32} {a1 : Int32} : ∀ G : ez_F, fx_up X 3 G 140 65 [.ref 6, .int a0] [.int a1] (ev_hp I J R T) cz kz = G 140 68 [.ref 6, .int a0, .int a1, .int (0 : Int32)] [] (ev_hp I J R T) cz kz := by
  intro G
  rfl
theorem s1_54 {q : Int32} {p : Nat}
    (H : pw N X 140 68 [.ref 6, .int q, .int (sz_F I (0 : Int32)), .int (0 : Int32)] [] (ev_hp I J (ev_sR R 0 (p)) T) Q) : pw (N + 1) X 140 54 [.ref 6, .int q] [.ref (p), .ref 6] (ev_hp I J R T) Q := by
  refine pw_seg (by decide) (fun _ _ => se_r34) ?_
  refine pw_p (pw_callp (by decide) (fun _ _ => se_r35) (pe_sizeOf) ?_)
  refine pw_p (pw_seg (by decide) (fun _ _ => se_r36) ?_)
  exact H
set_option maxRecDepth 100000 in
theorem se_r37 {a0 : Int32} {a1 : Int32} {a2 : Int32} : ∀ G : ez_F, fx_up X 3 G 140 68 [.ref 6, .int a0, .int a1, .int a2] [] (ev_hp I J R T) cz kz = bif decide (a1 ≤ a2) then G 140 100 [.ref 6, .int a0, .int a1, .int a2] [] (ev_hp I J R T) cz kz else G 140 73 [.ref 6, .int a0, .int a1, .int a2] [] (ev_hp I J R T) cz kz := by
  intro G
  rfl
set_option maxRecDepth 100000 in
theorem se_r38 {a0 : Int32} {a1 : Int32} {a2 : Int32} : ∀ G : ez_F, fx_up X 1 G 140 100 [.ref 6, .int a0, .int a1, .int a2] [] (ev_hp I J R T) cz kz = some (none, (ev_hp I J R T), cz, kz) := by
  intro G
  rfl
set_option maxRecDepth 100000 in
theorem se_r39 {a0 : Int32} {a1 : Int32} {a2 : Int32} : ∀ G : ez_F, fx_up X 9 G 140 73 [.ref 6, .int a0, .int a1, .int a2] [] (ev_hp I J R T) cz kz = ev_C G 86 [.ref 3, .int (0 : Int32), .int a2] (ev_hp I J R T) fun r h1 c1 k1 => G 140 88 [.ref 6, .int a0, .int a1, .int a2] (r.toList ++ [.ref 1, .int a2, .ref 6]) h1 (cz + c1) (kz + k1) := by
  intro G
  rfl
set_option maxRecDepth 100000 in
theorem se_r40 {a0 : Int32} {a1 : Int32} {a2 : Int32} {a3 : Int64} {a4 : Int32} : ∀ G : ez_F, fx_up X 1 G 140 88 [.ref 6, .int a0, .int a1, .int a2] [.long a3, .ref 1, .int a4, .ref 6] (ev_hp I J R T) cz kz = ev_C G 144 [.ref 1, .long a3] (ev_hp I J R T) fun r h1 c1 k1 => G 140 91 [.ref 6, .int a0, .int a1, .int a2] (r.toList ++ [.int a4, .ref 6]) h1 (cz + c1) (kz + k1) := by
  intro G
  rfl
set_option maxRecDepth 100000 in
theorem se_r41 {a0 : Int32} {a1 : Int32} {a2 : Int32} {a3 : Int64} {a4 : Int32} : ∀ G : ez_F, fx_up X 1 G 140 91 [.ref 6, .int a0, .int a1, .int a2] [.long a3, .int a4, .ref 6] (ev_hp I J R T) cz kz = ev_C G 141 [.ref 6, .int a4, .long a3] (ev_hp I J R T) fun r h1 c1 k1 => G 140 94 [.ref 6, .int a0, .int a1, .int a2] (r.toList ++ []) h1 (cz + c1) (kz + k1) := by
  intro G
  rfl
theorem s1_68 {q n a : Int32}
    (H : ((n ≤ a → Q none (ev_hp I J R T)) ∧ (¬ (n ≤ a) → (∃ Q1 : pw_Q, pe N X 141 [.ref 6, .int a, .long (ar (I 1 3) (I 1 5) (I 1 6) (J 1 7) (J 1 8) (J 1 9) (I 2 0) (cl_F I J (0 : Int32) a))] (ev_hp I J R T) Q1 ∧ ∀ (r : Option Value) (h1 : ez_H), Q1 r h1 → pw N X 140 94 [.ref 6, .int q, .int n, .int a] (r.toList ++ []) h1 Q)))) : pw (N + 1) X 140 68 [.ref 6, .int q, .int n, .int a] [] (ev_hp I J R T) Q := by
  refine pw_if (by decide) (fun _ _ => se_r37) (fun w1 => ?_) (fun w1 => ?_)
  · have h1 := H.1 w1
    exact pw_p (pw_ret (by decide) (fun _ _ => se_r38) h1)
  · have h1 := H.2 w1
    refine pw_p (pw_callp (by decide) (fun _ _ => se_r39) (pe_cellsAt) ?_)
    refine pw_p (pw_callp (by decide) (fun _ _ => se_r40) (pe_around) ?_)
    obtain ⟨Q1, hc, hk⟩ := h1
    exact pw_p (pw_call (by decide) (fun _ _ => se_r41) hc hk)
set_option maxRecDepth 100000 in
theorem se_r42 {a0 : Int32} {a1 : Int32} {a2 : Int32} : ∀ G : ez_F, fx_up X 2 G 140 94 [.ref 6, .int a0, .int a1, .int a2] [] (ev_hp I J R T) cz kz = G 140 68 [.ref 6, .int a0, .int a1, .int (a2 + (1 : Int32))] [] (ev_hp I J R T) cz kz := by
  intro G
  rfl
theorem s1_94 {q n a : Int32}
    (H : pw N X 140 68 [.ref 6, .int q, .int n, .int (a + (1 : Int32))] [] (ev_hp I J R T) Q) : pw (N + 1) X 140 94 [.ref 6, .int q, .int n, .int a] [] (ev_hp I J R T) Q := by
  refine pw_seg (by decide) (fun _ _ => se_r42) ?_
  exact H
set_option maxRecDepth 100000 in
theorem se_r43  : ∀ G : ez_F, fx_up X 3 G 52 0 [.ref 0] [] (ev_hp I J R T) cz kz = ev_C G 89 [.ref 3] (ev_hp I J R T) fun r h1 c1 k1 => G 52 7 [.ref 0] (r.toList ++ []) h1 (cz + c1) (kz + k1) := by
  intro G
  rfl
set_option maxRecDepth 100000 in
theorem se_r44 {a0 : Int32} : ∀ G : ez_F, fx_up X 2 G 52 7 [.ref 0] [.int a0] (ev_hp I J R T) cz kz = bif decide (a0 ≤ (10000 : Int32)) then G 52 15 [.ref 0] [] (ev_hp I J R T) cz kz else G 52 13 [.ref 0] [] (ev_hp I J R T) cz kz := by
  intro G
  rfl
set_option maxRecDepth 100000 in
theorem se_r45  : ∀ G : ez_F, fx_up X 3 G 52 15 [.ref 0] [] (ev_hp I J R T) cz kz = ev_C G 140 [.ref 6] (ev_hp I J R T) fun r h1 c1 k1 => G 52 22 [.ref 0] (r.toList ++ []) h1 (cz + c1) (kz + k1) := by
  intro G
  rfl
set_option maxRecDepth 100000 in
theorem se_r46  : ∀ G : ez_F, fx_up X 1 G 52 13 [.ref 0] [] (ev_hp I J R T) cz kz = G 52 14 [.ref 0] [.int (1 : Int32)] (ev_hp I J R T) cz kz := by
  intro G
  rfl
theorem tm_0 
    (H : (((cb_F I) ≤ (10000 : Int32) → (∃ Q1 : pw_Q, pe N X 140 [.ref 6] (ev_hp I J R T) Q1 ∧ ∀ (r : Option Value) (h1 : ez_H), Q1 r h1 → pw N X 52 22 [.ref 0] (r.toList ++ []) h1 Q)) ∧ (¬ ((cb_F I) ≤ (10000 : Int32)) → ((1 : Int32) = 0 ∨ (1 : Int32) = 1 → Q (some (.int (1 : Int32))) (ev_hp I J R T))))) : pw (N + 1) X 52 0 [.ref 0] [] (ev_hp I J R T) Q := by
  refine pw_callp (by decide) (fun _ _ => se_r43) (pe_comb) ?_
  refine pw_p (pw_if (by decide) (fun _ _ => se_r44) (fun w1 => ?_) (fun w1 => ?_))
  · have h1 := H.1 w1
    obtain ⟨Q1, hc, hk⟩ := h1
    exact pw_p (pw_call (by decide) (fun _ _ => se_r45) hc hk)
  · have h1 := H.2 w1
    refine pw_p (pw_seg (by decide) (fun _ _ => se_r46) ?_)
    exact pw_p (pw_zret (by rfl) h1)
set_option maxRecDepth 100000 in
theorem se_r47  : ∀ G : ez_F, fx_up X 1 G 52 22 [.ref 0] [] (ev_hp I J R T) cz kz = G 52 23 [.ref 0] [.int (0 : Int32)] (ev_hp I J R T) cz kz := by
  intro G
  rfl
theorem tm_22 
    (H : ((0 : Int32) = 0 ∨ (0 : Int32) = 1 → Q (some (.int (0 : Int32))) (ev_hp I J R T))) : pw (N + 1) X 52 22 [.ref 0] [] (ev_hp I J R T) Q := by
  refine pw_seg (by decide) (fun _ _ => se_r47) ?_
  exact pw_p (pw_zret (by rfl) H)
set_option maxRecDepth 100000 in
theorem se_r48  : ∀ G : ez_F, fx_up X 2 G 15 0 [.ref 0] [] (ev_hp I J R T) cz kz = ev_C G 52 [.ref 0] (ev_hp I J R T) fun r h1 c1 k1 => G 15 4 [.ref 0] (r.toList ++ []) h1 (cz + c1) (kz + k1) := by
  intro G
  rfl
theorem cw_0 
    (H : (∃ Q1 : pw_Q, pe N X 52 [.ref 0] (ev_hp I J R T) Q1 ∧ ∀ (r : Option Value) (h1 : ez_H), Q1 r h1 → pw N X 15 4 [.ref 0] (r.toList ++ []) h1 Q)) : pw (N + 1) X 15 0 [.ref 0] [] (ev_hp I J R T) Q := by
  obtain ⟨Q1, hc, hk⟩ := H
  exact pw_call (by decide) (fun _ _ => se_r48) hc hk
set_option maxRecDepth 100000 in
theorem se_r49 {a0 : Int32} : ∀ G : ez_F, fx_up X 1 G 15 4 [.ref 0] [.int a0] (ev_hp I J R T) cz kz = bif decide (¬ a0 = (0 : Int32)) then G 15 20 [.ref 0] [] (ev_hp I J R T) cz kz else G 15 7 [.ref 0] [] (ev_hp I J R T) cz kz := by
  intro G
  rfl
set_option maxRecDepth 100000 in
theorem se_r50  : ∀ G : ez_F, fx_up X 2 G 15 20 [.ref 0] [] (ev_hp I J R T) cz kz = G 15 25 [.ref 0] [.int (1 : Int32)] (ev_hp I J R T) cz kz := by
  intro G
  rfl
set_option maxRecDepth 100000 in
theorem se_r51  : ∀ G : ez_F, fx_up X 3 G 15 7 [.ref 0] [] (ev_hp I J R T) cz kz = G 15 14 [.ref 0] [.int (I 6 3)] (ev_hp I J R T) cz kz := by
  intro G
  rfl
set_option maxRecDepth 100000 in
theorem se_r52 {a0 : Int32} : ∀ G : ez_F, fx_up X 2 G 15 14 [.ref 0] [.int a0] (ev_hp I J R T) cz kz = bif decide (a0 ≤ (400 : Int32)) then G 15 24 [.ref 0] [] (ev_hp I J R T) cz kz else G 15 20 [.ref 0] [] (ev_hp I J R T) cz kz := by
  intro G
  rfl
set_option maxRecDepth 100000 in
theorem se_r53  : ∀ G : ez_F, fx_up X 1 G 15 24 [.ref 0] [] (ev_hp I J R T) cz kz = G 15 25 [.ref 0] [.int (0 : Int32)] (ev_hp I J R T) cz kz := by
  intro G
  rfl
theorem cw_4 {v : Int32}
    (H : ((¬ v = (0 : Int32) → ((1 : Int32) = 0 ∨ (1 : Int32) = 1 → Q (some (.int (1 : Int32))) (ev_hp I J R T))) ∧ (¬ (¬ v = (0 : Int32)) → (((I 6 3) ≤ (400 : Int32) → ((0 : Int32) = 0 ∨ (0 : Int32) = 1 → Q (some (.int (0 : Int32))) (ev_hp I J R T))) ∧ (¬ ((I 6 3) ≤ (400 : Int32)) → ((1 : Int32) = 0 ∨ (1 : Int32) = 1 → Q (some (.int (1 : Int32))) (ev_hp I J R T))))))) : pw (N + 1) X 15 4 [.ref 0] [.int v] (ev_hp I J R T) Q := by
  refine pw_if (by decide) (fun _ _ => se_r49) (fun w1 => ?_) (fun w1 => ?_)
  · have h1 := H.1 w1
    refine pw_p (pw_seg (by decide) (fun _ _ => se_r50) ?_)
    exact pw_p (pw_zret (by rfl) h1)
  · have h1 := H.2 w1
    refine pw_p (pw_seg (by decide) (fun _ _ => se_r51) ?_)
    refine pw_p (pw_if (by decide) (fun _ _ => se_r52) (fun w2 => ?_) (fun w2 => ?_))
    · have h2 := h1.1 w2
      refine pw_p (pw_seg (by decide) (fun _ _ => se_r53) ?_)
      exact pw_p (pw_zret (by rfl) h2)
    · have h2 := h1.2 w2
      refine pw_p (pw_seg (by decide) (fun _ _ => se_r50) ?_)
      exact pw_p (pw_zret (by rfl) h2)
end
noncomputable def arI (I : Nat → Nat → Int32) (J : Nat → Nat → Int64) (z : Int64) : Int64 := ar (I 1 3) (I 1 5) (I 1 6) (J 1 7) (J 1 8) (J 1 9) (I 2 0) z
/-- what the search rests on: how many spots, their cells, what they bar -/
noncomputable def sr_w (I : Nat → Nat → Int32) (J : Nat → Nat → Int64) (n0 n1 n2 : Nat) (e0 e1 e2 b0 b1 : Nat → Int64) : Prop := (sz_F I 0 = Int32.ofNat n0 ∧ sz_F I 1 = Int32.ofNat n1 ∧ sz_F I 2 = Int32.ofNat n2) ∧ ((∀ a, a < n0 → cl_F I J 0 (Int32.ofNat a) = e0 a) ∧ (∀ a, a < n1 → cl_F I J 1 (Int32.ofNat a) = e1 a) ∧ ∀ a, a < n2 → cl_F I J 2 (Int32.ofNat a) = e2 a) ∧
  ((∀ a, a < n0 → arI I J (e0 a) = b0 a) ∧ ∀ a, a < n1 → arI I J (e1 a) = b1 a) ∧ n0 ≤ 288 ∧ n1 ≤ 288 ∧ n2 ≤ 288
theorem sr_w6 {I : Nat → Nat → Int32} {J : Nat → Nat → Int64} {n0 n1 n2 : Nat} {e0 e1 e2 b0 b1 : Nat → Int64} (f : Nat → Int32) (h : sr_w I J n0 n1 n2 e0 e1 e2 b0 b1) : sr_w (ev_sI I 6 f) J n0 n1 n2 e0 e1 e2 b0 b1 := by
  have a3 : ev_sI I 6 f 3 = I 3 := cx_sI_n _ _ (by decide)
  have a5 : ev_sI I 6 f 5 = I 5 := cx_sI_n _ _ (by decide)
  have a1 : ev_sI I 6 f 1 = I 1 := cx_sI_n _ _ (by decide)
  have a2 : ev_sI I 6 f 2 = I 2 := cx_sI_n _ _ (by decide)
  have h1 : ∀ s, sz_F (ev_sI I 6 f) s = sz_F I s := fun s => by unfold sz_F; rw [a3, a5]
  have h2 : ∀ s k, cl_F (ev_sI I 6 f) J s k = cl_F I J s k := fun s k => by unfold cl_F; rw [a3]
  have h3 : ∀ z, arI (ev_sI I 6 f) J z = arI I J z := fun z => by unfold arI; rw [a1, a2]
  unfold sr_w
  simp only [h1, h2, h3]
  exact h
noncomputable def ly_p (e1 b0 : Nat → Int64) (a b : Nat) : Bool := decide (e1 b &&& b0 a = 0)
noncomputable def ly_q (e2 b0 b1 : Nat → Int64) (a b c : Nat) : Bool := decide (e2 c &&& (b0 a ||| b1 b) = 0)
/-- so far these are found -/
noncomputable def sr_s (I : Nat → Nat → Int32) (p n : Nat) (T1 : List ez_C) (L : List ly_t) (I' : Nat → Nat → Int32) (T' : List ez_C) : Prop := ∃ f, I' = ev_sI I 6 (upd (upd (I 6) 4 1) 3 (Int32.ofNat L.length)) ∧ rowT p T' n f ∧ ly_row f L ∧ keepT p T1 T'
section
variable {X : ez_X} {I I' : Nat → Nat → Int32} {J : Nat → Nat → Int64} {R : Nat → Nat} {T1 T' : List ez_C} {n n0 n1 n2 : Nat} {e0 e1 e2 b0 b1 : Nat → Int64} {L : List ly_t}
theorem sr_sw (h : sr_s I (R 0) n T1 L I' T') (hw : sr_w I J n0 n1 n2 e0 e1 e2 b0 b1) : sr_w I' J n0 n1 n2 e0 e1 e2 b0 b1 := by
  obtain ⟨f, rfl, -⟩ := h
  exact sr_w6 _ hw
theorem s3_loop (hw : sr_w I J n0 n1 n2 e0 e1 e2 b0 b1) (hn : n ≤ 10000) {a b : Nat} (hL : L.length + n2 ≤ n) {Q : pw_Q} {zz : Int32} (hz : zz = (Int32.ofNat a <<< ((9 : Int32) &&& (31 : Int32))) ||| Int32.ofNat b)
    (cont : ∀ I2 T2, sr_s I (R 0) n T1 (L ++ ly_3 (ly_q e2 b0 b1) a b n2) I2 T2 → Q none (ev_hp I2 J R T2)) : ∀ (N c : Nat) I' T', c ≤ n2 → sr_s I (R 0) n T1 (L ++ ly_3 (ly_q e2 b0 b1) a b c) I' T' →
    pw N X 142 13 [.ref 6, .int zz, .long (b0 a ||| b1 b), ez_fill, .int (Int32.ofNat n2), .int (Int32.ofNat c)] [] (ev_hp I' J R T') Q := by
  intro N
  induction N with
  | zero => exact fun c I' T' _ _ => pw_0
  | succ N ih =>
    intro c I' T' hc hs
    have hw' := sr_sw hs hw
    obtain ⟨hsz, ⟨hc0, hc1, hc2⟩, -, h0, h1, h2⟩ := hw'
    have next : c < n2 → ly_q e2 b0 b1 a b c = false → pw N X 142 13 [.ref 6, .int zz, .long (b0 a ||| b1 b), ez_fill, .int (Int32.ofNat n2), .int (Int32.ofNat (c + 1))] [] (ev_hp I' J R T') Q := by
      intro hlt hq
      refine ih (c + 1) I' T' (by omega) ?_
      unfold ly_3
      rw [hq]
      simp only [cond_false, List.append_nil]
      exact hs
    refine s3_13 ⟨fun w => ?_, fun w => ⟨fun w2 => ?_, fun w2 => ?_⟩⟩
    · rw [io_le (by omega) (by omega)] at w
      obtain rfl : c = n2 := by omega
      exact cont I' T' hs
    · rw [io_le (by omega) (by omega)] at w
      rw [lg_eq, show (2 : Int32) = 2 from rfl, hc2 c (by omega)] at w2
      rw [io_1]
      exact next (by omega) (decide_eq_false w2)
    · rw [io_le (by omega) (by omega)] at w
      have w3 := Classical.not_not.mp w2
      rw [lg_eq, hc2 c (by omega)] at w3
      obtain ⟨f, rfl, hr, hrow, hk⟩ := hs
      have hlen : (L ++ ly_3 (ly_q e2 b0 b1) a b c).length < n := by
        rw [List.length_append]
        have := ly_3l (ly_q e2 b0 b1) a b c
        omega
      refine ⟨_, pe_putR hr (by omega), ?_⟩
      rintro r h ⟨rfl, T2, rfl, g1, g2⟩
      refine pw_p (s3_55 ?_)
      rw [io_1]
      refine ih (c + 1) _ T2 (by omega) ?_
      have eN : L ++ ly_3 (ly_q e2 b0 b1) a b (c + 1) = (L ++ ly_3 (ly_q e2 b0 b1) a b c) ++ [(a, b, c)] := by
        rw [show ly_3 (ly_q e2 b0 b1) a b (c + 1) = ly_3 (ly_q e2 b0 b1) a b c ++ (bif ly_q e2 b0 b1 a b c then [(a, b, c)] else []) from rfl, show ly_q e2 b0 b1 a b c = true from decide_eq_true w3, List.append_assoc]
        rfl
      rw [eN]
      generalize L ++ ly_3 (ly_q e2 b0 b1) a b c = L1 at hrow hlen g1 ⊢
      rw [cx_sI_s, upd_s] at g1 ⊢
      rw [put_in hlen (by omega)] at g1
      refine ⟨_, ?_, g1, ?_, keepT_t hk g2⟩
      · rw [sI2, upd_2, io_1, List.length_append, List.length_singleton]
      · rw [hz]
        exact ly_row_add (t := (a, b, c)) hrow
theorem pe_s3 (hw : sr_w I J n0 n1 n2 e0 e1 e2 b0 b1) (hn : n ≤ 10000) {a b : Nat} (hL : L.length + n2 ≤ n) {zz : Int32} (hz : zz = (Int32.ofNat a <<< ((9 : Int32) &&& (31 : Int32))) ||| Int32.ofNat b) (hs : sr_s I (R 0) n T1 L I' T') (N : Nat) :
    pe N X 142 [.ref 6, .int zz, .long (b0 a ||| b1 b)] (ev_hp I' J R T') (fun r h => r = none ∧ ∃ I2 T2, h = ev_hp I2 J R T2 ∧ sr_s I (R 0) n T1 (L ++ ly_3 (ly_q e2 b0 b1) a b n2) I2 T2) := by
  have hw' := sr_sw hs hw
  refine pe_of (pw_p (s3_0 ?_))
  rw [hw'.1.2.2]
  exact s3_loop hw hn hL hz (fun I2 T2 h => ⟨rfl, I2, T2, rfl, h⟩) N 0 I' T' (Nat.zero_le _) (by unfold ly_3; rw [List.append_nil]; exact hs)
theorem s2_loop (hw : sr_w I J n0 n1 n2 e0 e1 e2 b0 b1) (hn : n ≤ 10000) {a : Nat} (ha : a < n0) (hL : L.length + n1 * n2 ≤ n) {Q : pw_Q}
    (cont : ∀ I2 T2, sr_s I (R 0) n T1 (L ++ ly_2 (ly_p e1 b0) (ly_q e2 b0 b1) n2 a n1) I2 T2 → Q none (ev_hp I2 J R T2)) : ∀ (N b : Nat) I' T', b ≤ n1 → sr_s I (R 0) n T1 (L ++ ly_2 (ly_p e1 b0) (ly_q e2 b0 b1) n2 a b) I' T' →
    pw N X 141 13 [.ref 6, .int (Int32.ofNat a), .long (b0 a), ez_fill, .int (Int32.ofNat n1), .int (Int32.ofNat b)] [] (ev_hp I' J R T') Q := by
  intro N
  induction N with
  | zero => exact fun c I' T' _ _ => pw_0
  | succ N ih =>
    intro b I' T' hb hs
    have hw' := sr_sw hs hw
    obtain ⟨hsz, ⟨hc0, hc1, hc2⟩, ⟨hb0, hb1⟩, h0, h1, h2⟩ := hw'
    unfold arI at hb1
    refine s2_13 ⟨fun w => ?_, fun w => ⟨fun w2 => ?_, fun w2 => ?_⟩⟩
    · rw [io_le (by omega) (by omega)] at w
      obtain rfl : b = n1 := by omega
      exact cont I' T' hs
    · rw [io_le (by omega) (by omega)] at w
      rw [lg_eq, hc1 b (by omega)] at w2
      rw [io_1]
      refine ih (b + 1) I' T' (by omega) ?_
      unfold ly_2
      rw [show ly_p e1 b0 a b = false from decide_eq_false w2]
      simp only [cond_false, List.append_nil]
      exact hs
    · rw [io_le (by omega) (by omega)] at w
      have w3 := Classical.not_not.mp w2
      rw [lg_eq, hc1 b (by omega)] at w3
      rw [hc1 b (by omega), hb1 b (by omega)]
      have hlen : (L ++ ly_2 (ly_p e1 b0) (ly_q e2 b0 b1) n2 a b).length + n2 ≤ n := by
        rw [List.length_append]
        have h5 := ly_2l (ly_p e1 b0) (ly_q e2 b0 b1) n2 a b
        have h6 : (b + 1) * n2 ≤ n1 * n2 := Nat.mul_le_mul_right n2 (by omega)
        rw [Nat.succ_mul] at h6
        omega
      refine ⟨_, pe_s3 hw hn hlen rfl hs N, ?_⟩
      rintro r h ⟨rfl, I2, T2, rfl, h3⟩
      refine pw_p (s2_63 ?_)
      rw [io_1]
      refine ih (b + 1) I2 T2 (by omega) ?_
      unfold ly_2
      rw [show ly_p e1 b0 a b = true from decide_eq_true w3]
      simp only [cond_true]
      rw [← List.append_assoc]
      exact h3
theorem pe_s2 (hw : sr_w I J n0 n1 n2 e0 e1 e2 b0 b1) (hn : n ≤ 10000) {a : Nat} (ha : a < n0) (hL : L.length + n1 * n2 ≤ n) (hs : sr_s I (R 0) n T1 L I' T') (N : Nat) :
    pe N X 141 [.ref 6, .int (Int32.ofNat a), .long (b0 a)] (ev_hp I' J R T') (fun r h => r = none ∧ ∃ I2 T2, h = ev_hp I2 J R T2 ∧ sr_s I (R 0) n T1 (L ++ ly_2 (ly_p e1 b0) (ly_q e2 b0 b1) n2 a n1) I2 T2) := by
  have hw' := sr_sw hs hw
  refine pe_of (pw_p (s2_0 ?_))
  rw [hw'.1.2.1]
  exact s2_loop hw hn ha hL (fun I2 T2 h => ⟨rfl, I2, T2, rfl, h⟩) N 0 I' T' (Nat.zero_le _) (by unfold ly_2; rw [List.append_nil]; exact hs)
theorem s1_loop (hw : sr_w I J n0 n1 n2 e0 e1 e2 b0 b1) (hn : n ≤ 10000) (hL : n0 * (n1 * n2) ≤ n) {q : Int32} {Q : pw_Q}
    (cont : ∀ I2 T2, sr_s I (R 0) n T1 (ly_1 (ly_p e1 b0) (ly_q e2 b0 b1) n1 n2 n0) I2 T2 → Q none (ev_hp I2 J R T2)) : ∀ (N a : Nat) I' T', a ≤ n0 → sr_s I (R 0) n T1 (ly_1 (ly_p e1 b0) (ly_q e2 b0 b1) n1 n2 a) I' T' →
    pw N X 140 68 [.ref 6, .int q, .int (Int32.ofNat n0), .int (Int32.ofNat a)] [] (ev_hp I' J R T') Q := by
  intro N
  induction N with
  | zero => exact fun c I' T' _ _ => pw_0
  | succ N ih =>
    intro a I' T' ha hs
    have hw' := sr_sw hs hw
    obtain ⟨hsz, ⟨hc0, hc1, hc2⟩, ⟨hb0, hb1⟩, h0, h1, h2⟩ := hw'
    unfold arI at hb0
    refine s1_68 ⟨fun w => ?_, fun w => ?_⟩
    · rw [io_le (by omega) (by omega)] at w
      obtain rfl : a = n0 := by omega
      exact cont I' T' hs
    · rw [io_le (by omega) (by omega)] at w
      rw [hc0 a (by omega), hb0 a (by omega)]
      have hlen : (ly_1 (ly_p e1 b0) (ly_q e2 b0 b1) n1 n2 a).length + n1 * n2 ≤ n := by
        have h5 := ly_1l (ly_p e1 b0) (ly_q e2 b0 b1) n1 n2 a
        have h6 : (a + 1) * (n1 * n2) ≤ n0 * (n1 * n2) := Nat.mul_le_mul_right _ (by omega)
        rw [Nat.succ_mul] at h6
        omega
      refine ⟨_, pe_s2 hw hn (by omega) hlen hs N, ?_⟩
      rintro r h ⟨rfl, I2, T2, rfl, h3⟩
      refine pw_p (s1_94 ?_)
      rw [io_1]
      exact ih (a + 1) I2 T2 (by omega) h3
end
end
