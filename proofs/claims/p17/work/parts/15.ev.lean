/-! Runs of the machine whatever the fuel, and what holds behind them. -/
noncomputable def ev_R (X : ez_X) (F : Nat) : ez_F := fx_ev X F
/-- n steps over any machine that goes on -/
def fx_up (X : ez_X) (n : Nat) (G : ez_F) : ez_F := Nat.rec (motive := fun _ => ez_F) G (fun _ ih m pc ls st h c k => ft_P X m pc ih m pc ls st h c k) n
theorem fx_up_ev (X : ez_X) (F n : Nat) : fx_up X n (ev_R X F) = ev_R X (F + n) := by
  induction n with
  | zero => rfl
  | succ n ih =>
    funext m pc ls st h c k
    show ft_P X m pc (fx_up X n (ev_R X F)) m pc ls st h c k = ft_P X m pc (ev_R X (F + n)) m pc ls st h c k
    rw [ih]
abbrev ev_Q : Type := Option Value → ez_H → Nat → Nat → Prop
/-- from here the method ends, and what it ends with has Q -/
def ev_W (X : ez_X) (m pc : Nat) (ls st : List Value) (h : ez_H) (c k : Nat) (Q : ev_Q) : Prop :=
  ∃ (r : Option Value) (h' : ez_H) (c' k' : Nat), Q r h' c' k' ∧ ∃ F, ∀ n, ev_R X (F + n) m pc ls st h c k = some (r, h', c', k')
section EVA
variable {X : ez_X} {m pc pc' : Nat} {ls ls' st st' : List Value} {h h' : ez_H} {c k c' k' : Nat} {Q : ev_Q}
theorem ev_seg {a : Nat} (s : ∀ G : ez_F, fx_up X a G m pc ls st h c k = G m pc' ls' st' h' c' k') (e : ev_W X m pc' ls' st' h' c' k' Q) : ev_W X m pc ls st h c k Q := by
  obtain ⟨r, h1, c1, k1, hQ, F, hF⟩ := e
  refine ⟨r, h1, c1, k1, hQ, F + a, fun n => ?_⟩
  rw [show F + a + n = (F + n) + a by omega, ← fx_up_ev, s]
  exact hF _
theorem ev_ret {a : Nat} {r : Option Value} (s : ∀ G : ez_F, fx_up X a G m pc ls st h c k = some (r, h', c', k')) (e : Q r h' c' k') : ev_W X m pc ls st h c k Q :=
  ⟨r, h', c', k', e, a, fun n => by rw [Nat.add_comm, ← fx_up_ev]; exact s _⟩
/-- a branch whose two ends are runs -/
theorem ev_if {a pc1 pc2 : Nat} {t : Bool} {ls1 ls2 st1 st2 : List Value} {h1 h2 : ez_H} {c1 c2 k1 k2 : Nat} (s : ∀ G : ez_F, fx_up X a G m pc ls st h c k = bif t then G m pc1 ls1 st1 h1 c1 k1 else G m pc2 ls2 st2 h2 c2 k2)
    (e1 : t = true → ev_W X m pc1 ls1 st1 h1 c1 k1 Q) (e2 : t = false → ev_W X m pc2 ls2 st2 h2 c2 k2 Q) : ev_W X m pc ls st h c k Q := by
  cases t with
  | true => exact ev_seg s (e1 rfl)
  | false => exact ev_seg s (e2 rfl)
/-- what a call comes to -/
def ev_C (G : ez_F) (q : Nat) (as : List Value) (h : ez_H) (g : Option Value → ez_H → Nat → Nat → ez_O) : ez_O := match G q 0 (ez_lay as) [] h 0 0 with
  | some (r, h', c1, k1) => g r h' c1 k1
  | none => none
theorem ev_call {a q : Nat} {as : List Value} {Q1 : ev_Q} (s : ∀ G : ez_F, fx_up X a G m pc ls st h c k = ev_C G q as h' fun r h1 c1 k1 => G m pc' ls' (r.toList ++ st') h1 (c' + c1) (k' + k1))
    (e : ev_W X q 0 (ez_lay as) [] h' 0 0 Q1) (e2 : ∀ (r : Option Value) (h1 : ez_H) (c1 k1 : Nat), Q1 r h1 c1 k1 → ev_W X m pc' ls' (r.toList ++ st') h1 (c' + c1) (k' + k1) Q) : ev_W X m pc ls st h c k Q := by
  obtain ⟨r, h1, c1, k1, hQ1, F1, hF1⟩ := e
  obtain ⟨r2, h2, c2, k2, hQ, F2, hF2⟩ := e2 _ _ _ _ hQ1
  refine ⟨r2, h2, c2, k2, hQ, F1 + F2 + a, fun n => ?_⟩
  rw [show F1 + F2 + a + n = (F1 + F2 + n) + a by omega, ← fx_up_ev, s]
  unfold ev_C
  rw [show F1 + F2 + n = F1 + (F2 + n) by omega, hF1, show F1 + (F2 + n) = F2 + (F1 + n) by omega]
  exact hF2 _
theorem ev_W.mono {Q' : ev_Q} (e : ev_W X m pc ls st h c k Q) (hQ : ∀ r h1 c1 k1, Q r h1 c1 k1 → Q' r h1 c1 k1) : ev_W X m pc ls st h c k Q' := by
  obtain ⟨r, h1, c1, k1, hq, F, hF⟩ := e
  exact ⟨r, h1, c1, k1, hQ _ _ _ _ hq, F, hF⟩
end EVA
/-! The world as a text of numbers: I the ints, J the longs (by cell, then field or index), R the arrays that are made anew, T what was made since. -/
def ev_hp (I : Nat → Nat → Int32) (J : Nat → Nat → Int64) (R : Nat → Nat) (T : List ez_C) : ez_H := .inr (11, [.ref 1, .ref 3, .ref 6, .ref 8, .ref 10, .ref 13, .ref 20, .ref 22, .ref 31, .ref 32]) :: .inr (9, [.ref 2, .int (I 1 1), .int (I 1 2), .int (I 1 3), .int (I 1 4), .int (I 1 5), .int (I 1 6), .long (J 1 7), .long (J 1 8), .long (J 1 9)]) :: .inl (3, .inl (I 2)) :: .inr (2, [.ref 1, .ref 4, .ref 5, .int (I 3 3)]) :: .inl (864, .inr (.inl (J 4))) :: .inl (3, .inl (I 5)) :: .inr (8, [.ref 1, .ref 3, .ref (R 0), .int (I 6 3), .int (I 6 4)]) :: .inl (0, .inl (I 7)) :: .inr (6, [.ref 9, .int (I 8 1), .long (J 8 2), .long (J 8 3)]) :: .inl (30, .inr (.inl (J 9))) :: .inr (7, [.ref 1, .ref 3, .ref 6, .ref 8, .ref 11, .ref 12]) :: .inl (3, .inr (.inl (J 11))) :: .inl (3, .inr (.inl (J 12))) :: .inr (4, [.ref 1, .ref 6, .ref 8, .ref 10, .ref 14, .ref (R 1), .ref (R 2), .ref (R 3), .int (I 13 8), .int (I 13 9)]) :: .inr (10, [.ref 15, .ref 16, .int (I 14 2)]) :: .inl (36, .inl (I 15)) :: .inl (36, .inl (I 16)) :: .inl (0, .inr (.inl (J 17))) :: .inl (0, .inr (.inl (J 18))) :: .inl (0, .inr (.inl (J 19))) :: .inr (5, [.ref 6, .ref 13, .ref 21, .int (I 20 3), .int (I 20 4), .int (I 20 5), .int (I 20 6)]) :: .inl (1296, .inl (I 21)) :: .inr (0, [.ref 1, .ref 3, .ref 6, .ref 23, .ref (R 4), .ref 27, .ref 28, .ref 29, .int (I 22 8), .ref 30, .int (I 22 10), .int (I 22 11)]) :: .inr (10, [.ref 24, .ref 25, .int (I 23 2)]) :: .inl (36, .inl (I 24)) :: .inl (36, .inl (I 25)) :: .inl (0, .inl (I 26)) :: .inl (400, .inl (I 27)) :: .inl (400, .inl (I 28)) :: .inl (400, .inr (.inl (J 29))) :: .inl (36, .inl (I 30)) :: .inr (3, [.ref 3, .ref 6, .ref 8, .ref 13, .int (I 31 4), .int (I 31 5)]) :: .inr (1, [.ref 1, .ref 6, .ref 33, .ref 34]) :: .inl (12, .inl (I 33)) :: .inl (64, .inr (.inl (J 34))) :: .inr (12, [.int (I 35 0), .int (I 35 1), .int (I 35 2), .int (I 35 3), .ref 36, .ref 37, .int (I 35 6), .int (I 35 7), .int (I 35 8), .int (I 35 9), .int (I 35 10), .ref 38, .ref 39, .ref 40, .int (I 35 14), .ref 41, .int (I 35 16), .ref 42, .ref 43, .ref 44, .ref 45, .ref 46, .ref 47, .ref 48, .int (I 35 24), .ref 49, .ref 50, .ref 51, .ref 52, .ref 53, .ref 54, .ref 55, .ref 56, .ref 57, .ref 58, .ref 59, .int (I 35 36), .ref 60, .ref 61, .ref 62, .ref 63, .ref 64]) :: .inl (3, .inl (I 36)) :: .inl (3, .inl (I 37)) :: .inl (3, .inl (I 38)) :: .inl (900, .inr (.inl (J 39))) :: .inl (900, .inr (.inl (J 40))) :: .inl (30003, .inl (I 41)) :: .inl (30, .inl (I 42)) :: .inl (30, .inl (I 43)) :: .inl (30, .inl (I 44)) :: .inl (3, .inr (.inl (J 45))) :: .inl (3, .inr (.inl (J 46))) :: .inl (3, .inr (.inl (J 47))) :: .inl (31, .inl (I 48)) :: .inl (10001, .inl (I 49)) :: .inl (30003, .inr (.inl (J 50))) :: .inl (30003, .inr (.inl (J 51))) :: .inl (10001, .inr (.inl (J 52))) :: .inl (4, .inl (I 53)) :: .inl (1210, .inl (I 54)) :: .inl (1210, .inl (I 55)) :: .inl (1210, .inr (.inl (J 56))) :: .inl (401, .inl (I 57)) :: .inl (401, .inl (I 58)) :: .inl (401, .inl (I 59)) :: .inl (40, .inl (I 60)) :: .inl (12, .inl (I 61)) :: .inl (401, .inl (I 62)) :: .inl (401, .inl (I 63)) :: .inl (401, .inl (I 64)) :: T
/-- a cell's ints, or longs, anew -/
def ev_sI (I : Nat → Nat → Int32) (a : Nat) (f : Nat → Int32) : Nat → Nat → Int32 := fun q => bif Nat.beq q a then f else I q
def ev_sJ (J : Nat → Nat → Int64) (a : Nat) (f : Nat → Int64) : Nat → Nat → Int64 := fun q => bif Nat.beq q a then f else J q
/-- a new object's -/
def ev_I0 : Nat → Nat → Int32 := (ev_sI (ev_sI (ev_sI (ev_sI (ev_sI (ev_sI (fun _ _ => 0) 1 (upd (upd (upd (fun _ => 0) 3 5) 4 5) 6 25)) 2 (upd (fun _ => 0) 1 1)) 22 (upd (fun _ => 0) 11 (-1))) 33 (upd (upd (upd (upd (upd (upd (upd (upd (upd (upd (upd (upd (fun _ => 0) 0 (-1)) 1 (-1)) 2 (-1)) 3 (-1)) 4 (-1)) 5 (-1)) 6 (-1)) 7 (-1)) 8 (-1)) 9 (-1)) 10 (-1)) 11 (-1))) 35 (upd (upd (upd (fun _ => 0) 0 5) 1 5) 7 1)) 61 (upd (upd (upd (upd (upd (upd (upd (upd (upd (upd (upd (upd (fun _ => 0) 0 (-1)) 1 (-1)) 2 (-1)) 3 (-1)) 4 (-1)) 5 (-1)) 6 (-1)) 7 (-1)) 8 (-1)) 9 (-1)) 10 (-1)) 11 (-1)))
def ev_J0 : Nat → Nat → Int64 := (ev_sJ (fun _ _ => 0) 1 (vp_updL (vp_updL (vp_updL (fun _ => 0) 7 33554431) 8 1082401) 9 17318416))
def ev_R0 : Nat → Nat := fun i => bif Nat.beq i 0 then 7 else bif Nat.beq i 1 then 17 else bif Nat.beq i 2 then 18 else bif Nat.beq i 3 then 19 else 26
/-! a try of the kernel's speed -/
def ev_sR (R : Nat → Nat) (i v : Nat) : Nat → Nat := fun q => bif Nat.beq q i then v else R q
/-- what would show it false, if anything did -/
noncomputable def ev_eps (f : (Nat → Int32) → Bool) : Nat → Int32 := Classical.epsilon (fun x => f x = false)
theorem ev_all (f : (Nat → Int32) → Bool) (h : f (ev_eps f) = true) : ∀ x, f x = true := by
  intro x
  cases hx : f x with
  | true => rfl
  | false =>
    have h2 : f (ev_eps f) = false := Classical.epsilon_spec (p := fun x => f x = false) ⟨x, hx⟩
    rw [h] at h2
    cases h2
/-- from the law's place behind the switch, on new objects, to its end -/
def ev_P1 (X : ez_X) (pc : Nat) : Prop := ev_W X 241 pc [ez_scr, .ref 0, .ref 35, .int 0] [] (ev_hp ev_I0 ev_J0 ev_R0 []) 65 121826 (fun r _ c k => r = some (.int 1) ∧ c ≤ 600000 ∧ k ≤ 7302250)
noncomputable def ev_chk (X : ez_X) (pc : Nat) : Bool := match ev_R X 3000 241 pc [ez_scr, .ref 0, .ref 35, .int 0] [] (ev_hp ev_I0 ev_J0 ev_R0 []) 65 121826 with
  | some (some (.int v), _, c, k) => decide (v = 1) && (Nat.ble c 600000 && Nat.ble k 7302250)
  | _ => false
/-- the script with its second int, its second and third told -/
def ev_x1 (xs : Nat → Int32) (a : Int) : ez_X := (4, fun j => bif Nat.beq j 1 then Int32.ofInt a else xs j)
def ev_x2 (xs : Nat → Int32) (a b : Int) : ez_X := (4, fun j => bif Nat.beq j 1 then Int32.ofInt a else bif Nat.beq j 2 then Int32.ofInt b else xs j)
