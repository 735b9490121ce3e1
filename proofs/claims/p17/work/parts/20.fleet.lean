/-! Building a ship: it ends, whatever the sheet; what it writes. -/
abbrev ev_anyI (h : ez_H) : ev_Q := fun r h1 c1 k1 => (∃ v, r = some (.int v)) ∧ h1 = h ∧ c1 = 0 ∧ k1 = 0
abbrev ev_anyJ (h : ez_H) : ev_Q := fun r h1 c1 k1 => (∃ v, r = some (.long v)) ∧ h1 = h ∧ c1 = 0 ∧ k1 = 0
abbrev ev_anyZ (h : ez_H) : ev_Q := fun r h1 c1 k1 => (∃ v, r = some (.int v) ∧ (v = 0 ∨ v = 1)) ∧ h1 = h ∧ c1 = 0 ∧ k1 = 0
theorem ev_inc {i b : Int32} (h : i < b) : (i + 1).toInt = i.toInt + 1 := by
  have h1 := Int32.lt_iff_toInt_lt.mp h
  have h2 := Int32.toInt_lt b
  have h3 := Int32.le_toInt i
  exact Jvm.Kit.i32_add (x := i) (y := 1) (by show _ ≤ i.toInt + 1; omega) (by show i.toInt + 1 < _; omega)
theorem ev_dec {i b : Int32} (h : b < i) : (i + -1).toInt = i.toInt - 1 := by
  have h1 := Int32.lt_iff_toInt_lt.mp h
  have h2 := Int32.toInt_lt i
  have h3 := Int32.le_toInt b
  have e : (-1 : Int32).toInt = -1 := by decide
  have := Jvm.Kit.i32_add (x := i) (y := -1) (by rw [e]; omega) (by rw [e]; omega)
  rw [this, e]
  omega
theorem ev_up {n : Nat} {i b : Int32} (hm : (b.toInt - i.toInt).toNat < n + 1) (h : ¬ b ≤ i) : (b.toInt - (i + 1).toInt).toNat < n := by
  have h1 := Int32.not_le.mp h
  rw [ev_inc h1]
  have h2 := Int32.lt_iff_toInt_lt.mp h1
  omega
theorem ev_down {n : Nat} {i b : Int32} (hm : (i.toInt - b.toInt).toNat < n + 1) (h : ¬ i ≤ b) : ((i + -1).toInt - b.toInt).toNat < n := by
  have h1 := Int32.not_le.mp h
  rw [ev_dec h1]
  have h2 := Int32.lt_iff_toInt_lt.mp h1
  omega

set_option maxRecDepth 100000 in
set_option maxHeartbeats 100000 in
theorem ec_fmod_r1 (X : ez_X) (h : ez_H) (x : Int32) (y : Int32) (cz kz : Nat) : ∀ G : ez_F, fx_up X 2 G 240 0 [.int x, .int y] [] h cz kz = G 240 2 [.int x, .int y] [.int y, .int x] h cz kz := by
  intro G
  rfl
set_option maxRecDepth 100000 in
set_option maxHeartbeats 100000 in
theorem ec_fmod_r2 (X : ez_X) (h : ez_H) (x : Int32) (y : Int32) (cz kz : Nat) : ∀ G : ez_F, fx_up X 5 G 240 3 [.int x, .int y] [.int (x - x / y * y)] h cz kz = bif decide (0 ≤ (x ^^^ y)) then G 240 18 [.int x, .int y, .int (x - x / y * y)] [] h cz kz else G 240 10 [.int x, .int y, .int (x - x / y * y)] [] h cz kz := by
  intro G
  rfl
set_option maxRecDepth 100000 in
set_option maxHeartbeats 100000 in
theorem ec_fmod_r3 (X : ez_X) (h : ez_H) (x : Int32) (y : Int32) (cz kz : Nat) : ∀ G : ez_F, fx_up X 2 G 240 18 [.int x, .int y, .int (x - x / y * y)] [] h cz kz = some (some (.int (x - x / y * y)), h, cz, kz) := by
  intro G
  rfl
set_option maxRecDepth 100000 in
set_option maxHeartbeats 100000 in
theorem ec_fmod_r4 (X : ez_X) (h : ez_H) (x : Int32) (y : Int32) (cz kz : Nat) : ∀ G : ez_F, fx_up X 2 G 240 10 [.int x, .int y, .int (x - x / y * y)] [] h cz kz = bif decide ((x - x / y * y) = 0) then G 240 18 [.int x, .int y, .int (x - x / y * y)] [] h cz kz else G 240 14 [.int x, .int y, .int (x - x / y * y)] [] h cz kz := by
  intro G
  rfl
set_option maxRecDepth 100000 in
set_option maxHeartbeats 100000 in
theorem ec_fmod_r5 (X : ez_X) (h : ez_H) (x : Int32) (y : Int32) (cz kz : Nat) : ∀ G : ez_F, fx_up X 2 G 240 18 [.int x, .int y, .int (x - x / y * y)] [] h cz kz = some (some (.int (x - x / y * y)), h, cz, kz) := by
  intro G
  rfl
set_option maxRecDepth 100000 in
set_option maxHeartbeats 100000 in
theorem ec_fmod_r6 (X : ez_X) (h : ez_H) (x : Int32) (y : Int32) (cz kz : Nat) : ∀ G : ez_F, fx_up X 4 G 240 14 [.int x, .int y, .int (x - x / y * y)] [] h cz kz = some (some (.int ((x - x / y * y) + y)), h, cz, kz) := by
  intro G
  rfl
theorem ec_fmod (X : ez_X) (h : ez_H) (x : Int32) (y : Int32) (hy : ¬ y = 0) : ev_W X 240 0 (ez_lay [.int x, .int y]) [] h 0 0 (ev_anyI h) := by
  refine ev_seg (ec_fmod_r1 X h x y _ _) ?_
  refine ev_irem (by rfl) hy ?_
  refine ev_if (ec_fmod_r2 X h x y _ _) (fun b1 => ?_) (fun b1 => ?_)
  · replace b1 := of_decide_eq_true b1
    refine ev_ret (ec_fmod_r3 X h x y _ _) ?_
    exact ⟨⟨_, rfl⟩, rfl, rfl, rfl⟩
  · replace b1 := of_decide_eq_false b1
    refine ev_if (ec_fmod_r4 X h x y _ _) (fun b2 => ?_) (fun b2 => ?_)
    · replace b2 := of_decide_eq_true b2
      refine ev_ret (ec_fmod_r5 X h x y _ _) ?_
      exact ⟨⟨_, rfl⟩, rfl, rfl, rfl⟩
    · replace b2 := of_decide_eq_false b2
      refine ev_ret (ec_fmod_r6 X h x y _ _) ?_
      exact ⟨⟨_, rfl⟩, rfl, rfl, rfl⟩
set_option maxRecDepth 100000 in
set_option maxHeartbeats 100000 in
theorem ec_wrapped_r1 (X : ez_X) (I : Nat → Nat → Int32) (J : Nat → Nat → Int64) (R : Nat → Nat) (T : List ez_C) (v : Int32) (z : Int32) (cz kz : Nat) : ∀ G : ez_F, fx_up X 3 G 154 0 [.ref 1, .int v, .int z] [] (ev_hp I J R T) cz kz = bif decide ((I 1 5) = 0) then G 154 19 [.ref 1, .int v, .int z] [] (ev_hp I J R T) cz kz else G 154 7 [.ref 1, .int v, .int z] [] (ev_hp I J R T) cz kz := by
  intro G
  rfl
set_option maxRecDepth 100000 in
set_option maxHeartbeats 100000 in
theorem ec_wrapped_r2 (X : ez_X) (I : Nat → Nat → Int32) (J : Nat → Nat → Int64) (R : Nat → Nat) (T : List ez_C) (v : Int32) (z : Int32) (cz kz : Nat) : ∀ G : ez_F, fx_up X 2 G 154 19 [.ref 1, .int v, .int z] [] (ev_hp I J R T) cz kz = some (some (.int v), (ev_hp I J R T), cz, kz) := by
  intro G
  rfl
set_option maxRecDepth 100000 in
set_option maxHeartbeats 100000 in
theorem ec_wrapped_r3 (X : ez_X) (I : Nat → Nat → Int32) (J : Nat → Nat → Int64) (R : Nat → Nat) (T : List ez_C) (v : Int32) (z : Int32) (cz kz : Nat) : ∀ G : ez_F, fx_up X 2 G 154 7 [.ref 1, .int v, .int z] [] (ev_hp I J R T) cz kz = bif decide (z ≤ 0) then G 154 19 [.ref 1, .int v, .int z] [] (ev_hp I J R T) cz kz else G 154 11 [.ref 1, .int v, .int z] [] (ev_hp I J R T) cz kz := by
  intro G
  rfl
set_option maxRecDepth 100000 in
set_option maxHeartbeats 100000 in
theorem ec_wrapped_r4 (X : ez_X) (I : Nat → Nat → Int32) (J : Nat → Nat → Int64) (R : Nat → Nat) (T : List ez_C) (v : Int32) (z : Int32) (cz kz : Nat) : ∀ G : ez_F, fx_up X 2 G 154 19 [.ref 1, .int v, .int z] [] (ev_hp I J R T) cz kz = some (some (.int v), (ev_hp I J R T), cz, kz) := by
  intro G
  rfl
set_option maxRecDepth 100000 in
set_option maxHeartbeats 100000 in
theorem ec_wrapped_r5 (X : ez_X) (I : Nat → Nat → Int32) (J : Nat → Nat → Int64) (R : Nat → Nat) (T : List ez_C) (v : Int32) (z : Int32) (cz kz : Nat) : ∀ G : ez_F, fx_up X 3 G 154 11 [.ref 1, .int v, .int z] [] (ev_hp I J R T) cz kz = ev_C G 240 [.int v, .int z] (ev_hp I J R T) fun r h1 c1 k1 => G 154 16 [.ref 1, .int v, .int z] (r.toList ++ []) h1 (cz + c1) (kz + k1) := by
  intro G
  rfl
set_option maxRecDepth 100000 in
set_option maxHeartbeats 100000 in
theorem ec_wrapped_r6 (X : ez_X) (I : Nat → Nat → Int32) (J : Nat → Nat → Int64) (R : Nat → Nat) (T : List ez_C) (v : Int32) (z : Int32) (v1 : Int32) (cz kz : Nat) : ∀ G : ez_F, fx_up X 2 G 154 16 [.ref 1, .int v, .int z] [.int v1] (ev_hp I J R T) cz kz = some (some (.int v1), (ev_hp I J R T), cz, kz) := by
  intro G
  rfl
theorem ec_wrapped (X : ez_X) (I : Nat → Nat → Int32) (J : Nat → Nat → Int64) (R : Nat → Nat) (T : List ez_C) (v : Int32) (z : Int32)  : ev_W X 154 0 (ez_lay [.ref 1, .int v, .int z]) [] (ev_hp I J R T) 0 0 (ev_anyI (ev_hp I J R T)) := by
  refine ev_if (ec_wrapped_r1 X I J R T v z _ _) (fun b1 => ?_) (fun b1 => ?_)
  · replace b1 := of_decide_eq_true b1
    refine ev_ret (ec_wrapped_r2 X I J R T v z _ _) ?_
    exact ⟨⟨_, rfl⟩, rfl, rfl, rfl⟩
  · replace b1 := of_decide_eq_false b1
    refine ev_if (ec_wrapped_r3 X I J R T v z _ _) (fun b2 => ?_) (fun b2 => ?_)
    · replace b2 := of_decide_eq_true b2
      refine ev_ret (ec_wrapped_r4 X I J R T v z _ _) ?_
      exact ⟨⟨_, rfl⟩, rfl, rfl, rfl⟩
    · replace b2 := of_decide_eq_false b2
      refine ev_call (ec_wrapped_r5 X I J R T v z _ _) (ec_fmod X (ev_hp I J R T) v z (fun hz => b2 (by rw [hz]; decide))) ?_
      rintro _ _ _ _ ⟨⟨v1, rfl⟩, rfl, rfl, rfl⟩
      refine ev_ret (ec_wrapped_r6 X I J R T v z v1 _ _) ?_
      exact ⟨⟨_, rfl⟩, rfl, rfl, rfl⟩
def ev_bcI (x : Int32) : Int32 := ((((((((x - ((x.toUInt32 >>> 1).toInt32 &&& (1431655765 : Int32))) &&& (858993459 : Int32)) + (((x - ((x.toUInt32 >>> 1).toInt32 &&& (1431655765 : Int32))).toUInt32 >>> 2).toInt32 &&& (858993459 : Int32))) + ((((x - ((x.toUInt32 >>> 1).toInt32 &&& (1431655765 : Int32))) &&& (858993459 : Int32)) + (((x - ((x.toUInt32 >>> 1).toInt32 &&& (1431655765 : Int32))).toUInt32 >>> 2).toInt32 &&& (858993459 : Int32))).toUInt32 >>> 4).toInt32) &&& (252645135 : Int32)) + ((((((x - ((x.toUInt32 >>> 1).toInt32 &&& (1431655765 : Int32))) &&& (858993459 : Int32)) + (((x - ((x.toUInt32 >>> 1).toInt32 &&& (1431655765 : Int32))).toUInt32 >>> 2).toInt32 &&& (858993459 : Int32))) + ((((x - ((x.toUInt32 >>> 1).toInt32 &&& (1431655765 : Int32))) &&& (858993459 : Int32)) + (((x - ((x.toUInt32 >>> 1).toInt32 &&& (1431655765 : Int32))).toUInt32 >>> 2).toInt32 &&& (858993459 : Int32))).toUInt32 >>> 4).toInt32) &&& (252645135 : Int32)).toUInt32 >>> 8).toInt32) + (((((((x - ((x.toUInt32 >>> 1).toInt32 &&& (1431655765 : Int32))) &&& (858993459 : Int32)) + (((x - ((x.toUInt32 >>> 1).toInt32 &&& (1431655765 : Int32))).toUInt32 >>> 2).toInt32 &&& (858993459 : Int32))) + ((((x - ((x.toUInt32 >>> 1).toInt32 &&& (1431655765 : Int32))) &&& (858993459 : Int32)) + (((x - ((x.toUInt32 >>> 1).toInt32 &&& (1431655765 : Int32))).toUInt32 >>> 2).toInt32 &&& (858993459 : Int32))).toUInt32 >>> 4).toInt32) &&& (252645135 : Int32)) + ((((((x - ((x.toUInt32 >>> 1).toInt32 &&& (1431655765 : Int32))) &&& (858993459 : Int32)) + (((x - ((x.toUInt32 >>> 1).toInt32 &&& (1431655765 : Int32))).toUInt32 >>> 2).toInt32 &&& (858993459 : Int32))) + ((((x - ((x.toUInt32 >>> 1).toInt32 &&& (1431655765 : Int32))) &&& (858993459 : Int32)) + (((x - ((x.toUInt32 >>> 1).toInt32 &&& (1431655765 : Int32))).toUInt32 >>> 2).toInt32 &&& (858993459 : Int32))).toUInt32 >>> 4).toInt32) &&& (252645135 : Int32)).toUInt32 >>> 8).toInt32).toUInt32 >>> 16).toInt32) &&& (63 : Int32))
set_option maxRecDepth 100000 in
set_option maxHeartbeats 100000 in
theorem ec_bcI_r1 (X : ez_X) (h : ez_H) (x : Int32) (cz kz : Nat) : ∀ G : ez_F, fx_up X 42 G 234 0 [.int x] [] h cz kz = some (some (.int (ev_bcI x)), h, cz, kz) := by
  intro G
  rfl
theorem ec_bcI (X : ez_X) (h : ez_H) (x : Int32) : ev_W X 234 0 (ez_lay [.int x]) [] h 0 0 (ev_is (some (.int (ev_bcI x))) h) := by
  exact ev_ret (ec_bcI_r1 X h x _ _) ⟨rfl, rfl, rfl, rfl⟩
def ev_bcJ (x : Int64) : Int32 := ((((((((((x - (((x.toUInt64 >>> 1).toInt64) &&& (6148914691236517205 : Int64))) &&& (3689348814741910323 : Int64)) + ((((x - (((x.toUInt64 >>> 1).toInt64) &&& (6148914691236517205 : Int64))).toUInt64 >>> 2).toInt64) &&& (3689348814741910323 : Int64))) + (((((x - (((x.toUInt64 >>> 1).toInt64) &&& (6148914691236517205 : Int64))) &&& (3689348814741910323 : Int64)) + ((((x - (((x.toUInt64 >>> 1).toInt64) &&& (6148914691236517205 : Int64))).toUInt64 >>> 2).toInt64) &&& (3689348814741910323 : Int64))).toUInt64 >>> 4).toInt64)) &&& (1085102592571150095 : Int64)) + (((((((x - (((x.toUInt64 >>> 1).toInt64) &&& (6148914691236517205 : Int64))) &&& (3689348814741910323 : Int64)) + ((((x - (((x.toUInt64 >>> 1).toInt64) &&& (6148914691236517205 : Int64))).toUInt64 >>> 2).toInt64) &&& (3689348814741910323 : Int64))) + (((((x - (((x.toUInt64 >>> 1).toInt64) &&& (6148914691236517205 : Int64))) &&& (3689348814741910323 : Int64)) + ((((x - (((x.toUInt64 >>> 1).toInt64) &&& (6148914691236517205 : Int64))).toUInt64 >>> 2).toInt64) &&& (3689348814741910323 : Int64))).toUInt64 >>> 4).toInt64)) &&& (1085102592571150095 : Int64)).toUInt64 >>> 8).toInt64)) + ((((((((x - (((x.toUInt64 >>> 1).toInt64) &&& (6148914691236517205 : Int64))) &&& (3689348814741910323 : Int64)) + ((((x - (((x.toUInt64 >>> 1).toInt64) &&& (6148914691236517205 : Int64))).toUInt64 >>> 2).toInt64) &&& (3689348814741910323 : Int64))) + (((((x - (((x.toUInt64 >>> 1).toInt64) &&& (6148914691236517205 : Int64))) &&& (3689348814741910323 : Int64)) + ((((x - (((x.toUInt64 >>> 1).toInt64) &&& (6148914691236517205 : Int64))).toUInt64 >>> 2).toInt64) &&& (3689348814741910323 : Int64))).toUInt64 >>> 4).toInt64)) &&& (1085102592571150095 : Int64)) + (((((((x - (((x.toUInt64 >>> 1).toInt64) &&& (6148914691236517205 : Int64))) &&& (3689348814741910323 : Int64)) + ((((x - (((x.toUInt64 >>> 1).toInt64) &&& (6148914691236517205 : Int64))).toUInt64 >>> 2).toInt64) &&& (3689348814741910323 : Int64))) + (((((x - (((x.toUInt64 >>> 1).toInt64) &&& (6148914691236517205 : Int64))) &&& (3689348814741910323 : Int64)) + ((((x - (((x.toUInt64 >>> 1).toInt64) &&& (6148914691236517205 : Int64))).toUInt64 >>> 2).toInt64) &&& (3689348814741910323 : Int64))).toUInt64 >>> 4).toInt64)) &&& (1085102592571150095 : Int64)).toUInt64 >>> 8).toInt64)).toUInt64 >>> 16).toInt64)) + (((((((((x - (((x.toUInt64 >>> 1).toInt64) &&& (6148914691236517205 : Int64))) &&& (3689348814741910323 : Int64)) + ((((x - (((x.toUInt64 >>> 1).toInt64) &&& (6148914691236517205 : Int64))).toUInt64 >>> 2).toInt64) &&& (3689348814741910323 : Int64))) + (((((x - (((x.toUInt64 >>> 1).toInt64) &&& (6148914691236517205 : Int64))) &&& (3689348814741910323 : Int64)) + ((((x - (((x.toUInt64 >>> 1).toInt64) &&& (6148914691236517205 : Int64))).toUInt64 >>> 2).toInt64) &&& (3689348814741910323 : Int64))).toUInt64 >>> 4).toInt64)) &&& (1085102592571150095 : Int64)) + (((((((x - (((x.toUInt64 >>> 1).toInt64) &&& (6148914691236517205 : Int64))) &&& (3689348814741910323 : Int64)) + ((((x - (((x.toUInt64 >>> 1).toInt64) &&& (6148914691236517205 : Int64))).toUInt64 >>> 2).toInt64) &&& (3689348814741910323 : Int64))) + (((((x - (((x.toUInt64 >>> 1).toInt64) &&& (6148914691236517205 : Int64))) &&& (3689348814741910323 : Int64)) + ((((x - (((x.toUInt64 >>> 1).toInt64) &&& (6148914691236517205 : Int64))).toUInt64 >>> 2).toInt64) &&& (3689348814741910323 : Int64))).toUInt64 >>> 4).toInt64)) &&& (1085102592571150095 : Int64)).toUInt64 >>> 8).toInt64)) + ((((((((x - (((x.toUInt64 >>> 1).toInt64) &&& (6148914691236517205 : Int64))) &&& (3689348814741910323 : Int64)) + ((((x - (((x.toUInt64 >>> 1).toInt64) &&& (6148914691236517205 : Int64))).toUInt64 >>> 2).toInt64) &&& (3689348814741910323 : Int64))) + (((((x - (((x.toUInt64 >>> 1).toInt64) &&& (6148914691236517205 : Int64))) &&& (3689348814741910323 : Int64)) + ((((x - (((x.toUInt64 >>> 1).toInt64) &&& (6148914691236517205 : Int64))).toUInt64 >>> 2).toInt64) &&& (3689348814741910323 : Int64))).toUInt64 >>> 4).toInt64)) &&& (1085102592571150095 : Int64)) + (((((((x - (((x.toUInt64 >>> 1).toInt64) &&& (6148914691236517205 : Int64))) &&& (3689348814741910323 : Int64)) + ((((x - (((x.toUInt64 >>> 1).toInt64) &&& (6148914691236517205 : Int64))).toUInt64 >>> 2).toInt64) &&& (3689348814741910323 : Int64))) + (((((x - (((x.toUInt64 >>> 1).toInt64) &&& (6148914691236517205 : Int64))) &&& (3689348814741910323 : Int64)) + ((((x - (((x.toUInt64 >>> 1).toInt64) &&& (6148914691236517205 : Int64))).toUInt64 >>> 2).toInt64) &&& (3689348814741910323 : Int64))).toUInt64 >>> 4).toInt64)) &&& (1085102592571150095 : Int64)).toUInt64 >>> 8).toInt64)).toUInt64 >>> 16).toInt64)).toUInt64 >>> 32).toInt64)).toInt32) &&& (127 : Int32))
set_option maxRecDepth 100000 in
set_option maxHeartbeats 100000 in
theorem ec_bcJ_r1 (X : ez_X) (h : ez_H) (x : Int64) (cz kz : Nat) : ∀ G : ez_F, fx_up X 49 G 237 0 [.long x, ez_fill] [] h cz kz = some (some (.int (ev_bcJ x)), h, cz, kz) := by
  intro G
  rfl
theorem ec_bcJ (X : ez_X) (h : ez_H) (x : Int64) : ev_W X 237 0 (ez_lay [.long x]) [] h 0 0 (ev_is (some (.int (ev_bcJ x))) h) := by
  exact ev_ret (ec_bcJ_r1 X h x _ _) ⟨rfl, rfl, rfl, rfl⟩
set_option maxRecDepth 100000 in
set_option maxHeartbeats 100000 in
theorem ec_placed_l_r1 (X : ez_X) (I : Nat → Nat → Int32) (J : Nat → Nat → Int64) (R : Nat → Nat) (T : List ez_C) (s : Int32) (x : Int32) (y : Int32) (z : Int64) (i : Int32) (cz kz : Nat) : ∀ G : ez_F, fx_up X 3 G 149 6 [.ref 1, .int s, .int x, .int y, .long z, ez_fill, .int i] [] (ev_hp I J R T) cz kz = bif decide (16 ≤ i) then G 149 112 [.ref 1, .int s, .int x, .int y, .long z, ez_fill, .int i] [] (ev_hp I J R T) cz kz else G 149 13 [.ref 1, .int s, .int x, .int y, .long z, ez_fill, .int i] [] (ev_hp I J R T) cz kz := by
  intro G
  rfl
set_option maxRecDepth 100000 in
set_option maxHeartbeats 100000 in
theorem ec_placed_l_r2 (X : ez_X) (I : Nat → Nat → Int32) (J : Nat → Nat → Int64) (R : Nat → Nat) (T : List ez_C) (s : Int32) (x : Int32) (y : Int32) (z : Int64) (i : Int32) (cz kz : Nat) : ∀ G : ez_F, fx_up X 2 G 149 112 [.ref 1, .int s, .int x, .int y, .long z, ez_fill, .int i] [] (ev_hp I J R T) cz kz = ev_C G 237 [.long z] (ev_hp I J R T) fun r h1 c1 k1 => G 149 117 [.ref 1, .int s, .int x, .int y, .long z, ez_fill, .int i] (r.toList ++ []) h1 (cz + c1) (kz + k1) := by
  intro G
  rfl
set_option maxRecDepth 100000 in
set_option maxHeartbeats 100000 in
theorem ec_placed_l_r3 (X : ez_X) (I : Nat → Nat → Int32) (J : Nat → Nat → Int64) (R : Nat → Nat) (T : List ez_C) (s : Int32) (x : Int32) (y : Int32) (z : Int64) (i : Int32) (q1 : Int32) (cz kz : Nat) : ∀ G : ez_F, fx_up X 2 G 149 117 [.ref 1, .int s, .int x, .int y, .long z, ez_fill, .int i] [.int q1] (ev_hp I J R T) cz kz = ev_C G 234 [.int s] (ev_hp I J R T) fun r h1 c1 k1 => G 149 121 [.ref 1, .int s, .int x, .int y, .long z, ez_fill, .int i] (r.toList ++ [.int q1]) h1 (cz + c1) (kz + k1) := by
  intro G
  rfl
set_option maxRecDepth 100000 in
set_option maxHeartbeats 100000 in
theorem ec_placed_l_r4 (X : ez_X) (I : Nat → Nat → Int32) (J : Nat → Nat → Int64) (R : Nat → Nat) (T : List ez_C) (s : Int32) (x : Int32) (y : Int32) (z : Int64) (i : Int32) (q1 : Int32) (q2 : Int32) (cz kz : Nat) : ∀ G : ez_F, fx_up X 1 G 149 121 [.ref 1, .int s, .int x, .int y, .long z, ez_fill, .int i] [.int q2, .int q1] (ev_hp I J R T) cz kz = bif decide (¬ q1 = q2) then G 149 129 [.ref 1, .int s, .int x, .int y, .long z, ez_fill, .int i] [] (ev_hp I J R T) cz kz else G 149 124 [.ref 1, .int s, .int x, .int y, .long z, ez_fill, .int i] [] (ev_hp I J R T) cz kz := by
  intro G
  rfl
set_option maxRecDepth 100000 in
set_option maxHeartbeats 100000 in
theorem ec_placed_l_r5 (X : ez_X) (I : Nat → Nat → Int32) (J : Nat → Nat → Int64) (R : Nat → Nat) (T : List ez_C) (s : Int32) (x : Int32) (y : Int32) (z : Int64) (i : Int32) (q1 : Int32) (q2 : Int32) (cz kz : Nat) : ∀ G : ez_F, fx_up X 2 G 149 129 [.ref 1, .int s, .int x, .int y, .long z, ez_fill, .int i] [] (ev_hp I J R T) cz kz = some (some (.long 0), (ev_hp I J R T), cz, kz) := by
  intro G
  rfl
set_option maxRecDepth 100000 in
set_option maxHeartbeats 100000 in
theorem ec_placed_l_r6 (X : ez_X) (I : Nat → Nat → Int32) (J : Nat → Nat → Int64) (R : Nat → Nat) (T : List ez_C) (s : Int32) (x : Int32) (y : Int32) (z : Int64) (i : Int32) (q1 : Int32) (q2 : Int32) (cz kz : Nat) : ∀ G : ez_F, fx_up X 3 G 149 124 [.ref 1, .int s, .int x, .int y, .long z, ez_fill, .int i] [] (ev_hp I J R T) cz kz = some (some (.long z), (ev_hp I J R T), cz, kz) := by
  intro G
  rfl
set_option maxRecDepth 100000 in
set_option maxHeartbeats 100000 in
theorem ec_placed_l_r7 (X : ez_X) (I : Nat → Nat → Int32) (J : Nat → Nat → Int64) (R : Nat → Nat) (T : List ez_C) (s : Int32) (x : Int32) (y : Int32) (z : Int64) (i : Int32) (cz kz : Nat) : ∀ G : ez_F, fx_up X 6 G 149 13 [.ref 1, .int s, .int x, .int y, .long z, ez_fill, .int i] [] (ev_hp I J R T) cz kz = bif decide (¬ ((s >>> (i &&& 31)) &&& (1 : Int32)) = 0) then G 149 25 [.ref 1, .int s, .int x, .int y, .long z, ez_fill, .int i] [] (ev_hp I J R T) cz kz else G 149 22 [.ref 1, .int s, .int x, .int y, .long z, ez_fill, .int i] [] (ev_hp I J R T) cz kz := by
  intro G
  rfl
set_option maxRecDepth 100000 in
set_option maxHeartbeats 100000 in
theorem ec_placed_l_r8 (X : ez_X) (I : Nat → Nat → Int32) (J : Nat → Nat → Int64) (R : Nat → Nat) (T : List ez_C) (s : Int32) (x : Int32) (y : Int32) (z : Int64) (i : Int32) (cz kz : Nat) : ∀ G : ez_F, fx_up X 9 G 149 25 [.ref 1, .int s, .int x, .int y, .long z, ez_fill, .int i] [] (ev_hp I J R T) cz kz = ev_C G 154 [.ref 1, .int ((i &&& (3 : Int32)) + x), .int (I 1 3)] (ev_hp I J R T) fun r h1 c1 k1 => G 149 39 [.ref 1, .int s, .int x, .int y, .long z, ez_fill, .int i] (r.toList ++ []) h1 (cz + c1) (kz + k1) := by
  intro G
  rfl
set_option maxRecDepth 100000 in
set_option maxHeartbeats 100000 in
theorem ec_placed_l_r9 (X : ez_X) (I : Nat → Nat → Int32) (J : Nat → Nat → Int64) (R : Nat → Nat) (T : List ez_C) (s : Int32) (x : Int32) (y : Int32) (z : Int64) (i : Int32) (v2 : Int32) (cz kz : Nat) : ∀ G : ez_F, fx_up X 10 G 149 39 [.ref 1, .int s, .int x, .int y, .long z, ez_fill, .int i] [.int v2] (ev_hp I J R T) cz kz = ev_C G 154 [.ref 1, .int ((i >>> 2) + y), .int (I 1 4)] (ev_hp I J R T) fun r h1 c1 k1 => G 149 55 [.ref 1, .int s, .int x, .int y, .long z, ez_fill, .int i, .int v2] (r.toList ++ []) h1 (cz + c1) (kz + k1) := by
  intro G
  rfl
set_option maxRecDepth 100000 in
set_option maxHeartbeats 100000 in
theorem ec_placed_l_r10 (X : ez_X) (I : Nat → Nat → Int32) (J : Nat → Nat → Int64) (R : Nat → Nat) (T : List ez_C) (s : Int32) (x : Int32) (y : Int32) (z : Int64) (i : Int32) (v2 : Int32) (v3 : Int32) (cz kz : Nat) : ∀ G : ez_F, fx_up X 8 G 149 55 [.ref 1, .int s, .int x, .int y, .long z, ez_fill, .int i, .int v2] [.int v3] (ev_hp I J R T) cz kz = ev_C G 55 [.int v2, .int 0, .int ((I 1 3) - (1 : Int32))] (ev_hp I J R T) fun r h1 c1 k1 => G 149 69 [.ref 1, .int s, .int x, .int y, .long z, ez_fill, .int i, .int v2, .int v3] (r.toList ++ []) h1 (cz + c1) (kz + k1) := by
  intro G
  rfl
set_option maxRecDepth 100000 in
set_option maxHeartbeats 100000 in
theorem ec_placed_l_r11 (X : ez_X) (I : Nat → Nat → Int32) (J : Nat → Nat → Int64) (R : Nat → Nat) (T : List ez_C) (s : Int32) (x : Int32) (y : Int32) (z : Int64) (i : Int32) (v2 : Int32) (v3 : Int32) (q3 : Int32) (cz kz : Nat) : ∀ G : ez_F, fx_up X 1 G 149 69 [.ref 1, .int s, .int x, .int y, .long z, ez_fill, .int i, .int v2, .int v3] [.int q3] (ev_hp I J R T) cz kz = bif decide (q3 = 0) then G 149 87 [.ref 1, .int s, .int x, .int y, .long z, ez_fill, .int i, .int v2, .int v3] [] (ev_hp I J R T) cz kz else G 149 72 [.ref 1, .int s, .int x, .int y, .long z, ez_fill, .int i, .int v2, .int v3] [] (ev_hp I J R T) cz kz := by
  intro G
  rfl
set_option maxRecDepth 100000 in
set_option maxHeartbeats 100000 in
theorem ec_placed_l_r12 (X : ez_X) (I : Nat → Nat → Int32) (J : Nat → Nat → Int64) (R : Nat → Nat) (T : List ez_C) (s : Int32) (x : Int32) (y : Int32) (z : Int64) (i : Int32) (v2 : Int32) (v3 : Int32) (q3 : Int32) (cz kz : Nat) : ∀ G : ez_F, fx_up X 2 G 149 87 [.ref 1, .int s, .int x, .int y, .long z, ez_fill, .int i, .int v2, .int v3] [] (ev_hp I J R T) cz kz = some (some (.long 0), (ev_hp I J R T), cz, kz) := by
  intro G
  rfl
set_option maxRecDepth 100000 in
set_option maxHeartbeats 100000 in
theorem ec_placed_l_r13 (X : ez_X) (I : Nat → Nat → Int32) (J : Nat → Nat → Int64) (R : Nat → Nat) (T : List ez_C) (s : Int32) (x : Int32) (y : Int32) (z : Int64) (i : Int32) (v2 : Int32) (v3 : Int32) (q3 : Int32) (cz kz : Nat) : ∀ G : ez_F, fx_up X 7 G 149 72 [.ref 1, .int s, .int x, .int y, .long z, ez_fill, .int i, .int v2, .int v3] [] (ev_hp I J R T) cz kz = ev_C G 55 [.int v3, .int 0, .int ((I 1 4) - (1 : Int32))] (ev_hp I J R T) fun r h1 c1 k1 => G 149 84 [.ref 1, .int s, .int x, .int y, .long z, ez_fill, .int i, .int v2, .int v3] (r.toList ++ []) h1 (cz + c1) (kz + k1) := by
  intro G
  rfl
set_option maxRecDepth 100000 in
set_option maxHeartbeats 100000 in
theorem ec_placed_l_r14 (X : ez_X) (I : Nat → Nat → Int32) (J : Nat → Nat → Int64) (R : Nat → Nat) (T : List ez_C) (s : Int32) (x : Int32) (y : Int32) (z : Int64) (i : Int32) (v2 : Int32) (v3 : Int32) (q3 : Int32) (q4 : Int32) (cz kz : Nat) : ∀ G : ez_F, fx_up X 1 G 149 84 [.ref 1, .int s, .int x, .int y, .long z, ez_fill, .int i, .int v2, .int v3] [.int q4] (ev_hp I J R T) cz kz = bif decide (¬ q4 = 0) then G 149 89 [.ref 1, .int s, .int x, .int y, .long z, ez_fill, .int i, .int v2, .int v3] [] (ev_hp I J R T) cz kz else G 149 87 [.ref 1, .int s, .int x, .int y, .long z, ez_fill, .int i, .int v2, .int v3] [] (ev_hp I J R T) cz kz := by
  intro G
  rfl
set_option maxRecDepth 100000 in
set_option maxHeartbeats 100000 in
theorem ec_placed_l_r15 (X : ez_X) (I : Nat → Nat → Int32) (J : Nat → Nat → Int64) (R : Nat → Nat) (T : List ez_C) (s : Int32) (x : Int32) (y : Int32) (z : Int64) (i : Int32) (v2 : Int32) (v3 : Int32) (q3 : Int32) (q4 : Int32) (cz kz : Nat) : ∀ G : ez_F, fx_up X 13 G 149 89 [.ref 1, .int s, .int x, .int y, .long z, ez_fill, .int i, .int v2, .int v3] [] (ev_hp I J R T) cz kz = G 149 6 [.ref 1, .int s, .int x, .int y, .long (z ||| ((1 : Int64) <<< (((((I 1 3) * v3) + v2) : Int32).toInt64 &&& 63))), ez_fill, .int (i + (1 : Int32))] [] (ev_hp I J R T) cz kz := by
  intro G
  rfl
set_option maxRecDepth 100000 in
set_option maxHeartbeats 100000 in
theorem ec_placed_l_r16 (X : ez_X) (I : Nat → Nat → Int32) (J : Nat → Nat → Int64) (R : Nat → Nat) (T : List ez_C) (s : Int32) (x : Int32) (y : Int32) (z : Int64) (i : Int32) (v2 : Int32) (v3 : Int32) (q3 : Int32) (q4 : Int32) (cz kz : Nat) : ∀ G : ez_F, fx_up X 2 G 149 87 [.ref 1, .int s, .int x, .int y, .long z, ez_fill, .int i, .int v2, .int v3] [] (ev_hp I J R T) cz kz = some (some (.long 0), (ev_hp I J R T), cz, kz) := by
  intro G
  rfl
set_option maxRecDepth 100000 in
set_option maxHeartbeats 100000 in
theorem ec_placed_l_r17 (X : ez_X) (I : Nat → Nat → Int32) (J : Nat → Nat → Int64) (R : Nat → Nat) (T : List ez_C) (s : Int32) (x : Int32) (y : Int32) (z : Int64) (i : Int32) (cz kz : Nat) : ∀ G : ez_F, fx_up X 3 G 149 22 [.ref 1, .int s, .int x, .int y, .long z, ez_fill, .int i] [] (ev_hp I J R T) cz kz = G 149 6 [.ref 1, .int s, .int x, .int y, .long z, ez_fill, .int (i + (1 : Int32))] [] (ev_hp I J R T) cz kz := by
  intro G
  rfl
theorem ec_placed_l (X : ez_X) (I : Nat → Nat → Int32) (J : Nat → Nat → Int64) (R : Nat → Nat) (T : List ez_C) (s : Int32) (x : Int32) (y : Int32)  : ∀ (n : Nat) (z : Int64) (i : Int32), ((16 : Int32).toInt - i.toInt).toNat < n → ev_W X 149 6 [.ref 1, .int s, .int x, .int y, .long z, ez_fill, .int i] [] (ev_hp I J R T) 0 0 (ev_anyJ (ev_hp I J R T)) := by
  intro n
  induction n with
  | zero => intro z i hm; exact absurd hm (Nat.not_lt_zero _)
  | succ n ih =>
    intro z i hm
    refine ev_if (ec_placed_l_r1 X I J R T s x y z i _ _) (fun b1 => ?_) (fun b1 => ?_)
    · replace b1 := of_decide_eq_true b1
      refine ev_call (ec_placed_l_r2 X I J R T s x y z i _ _) (ec_bcJ X (ev_hp I J R T) z) ?_
      rintro _ _ _ _ ⟨rfl, rfl, rfl, rfl⟩
      generalize hq1 : (ev_bcJ z) = q1
      refine ev_call (ec_placed_l_r3 X I J R T s x y z i q1 _ _) (ec_bcI X (ev_hp I J R T) s) ?_
      rintro _ _ _ _ ⟨rfl, rfl, rfl, rfl⟩
      generalize hq2 : (ev_bcI s) = q2
      refine ev_if (ec_placed_l_r4 X I J R T s x y z i q1 q2 _ _) (fun b2 => ?_) (fun b2 => ?_)
      · replace b2 := of_decide_eq_true b2
        refine ev_ret (ec_placed_l_r5 X I J R T s x y z i q1 q2 _ _) ?_
        exact ⟨⟨_, rfl⟩, rfl, rfl, rfl⟩
      · replace b2 := of_decide_eq_false b2
        refine ev_ret (ec_placed_l_r6 X I J R T s x y z i q1 q2 _ _) ?_
        exact ⟨⟨_, rfl⟩, rfl, rfl, rfl⟩
    · replace b1 := of_decide_eq_false b1
      refine ev_if (ec_placed_l_r7 X I J R T s x y z i _ _) (fun b3 => ?_) (fun b3 => ?_)
      · replace b3 := of_decide_eq_true b3
        refine ev_call (ec_placed_l_r8 X I J R T s x y z i _ _) (ec_wrapped X I J R T ((i &&& (3 : Int32)) + x) (I 1 3)) ?_
        rintro _ _ _ _ ⟨⟨v2, rfl⟩, rfl, rfl, rfl⟩
        refine ev_call (ec_placed_l_r9 X I J R T s x y z i v2 _ _) (ec_wrapped X I J R T ((i >>> 2) + y) (I 1 4)) ?_
        rintro _ _ _ _ ⟨⟨v3, rfl⟩, rfl, rfl, rfl⟩
        refine ev_call (ec_placed_l_r10 X I J R T s x y z i v2 v3 _ _) (ec_within X (ev_hp I J R T) v2 0 ((I 1 3) - (1 : Int32))) ?_
        rintro _ _ _ _ ⟨rfl, rfl, rfl, rfl⟩
        generalize hq3 : (ev_wi v2 0 ((I 1 3) - (1 : Int32))) = q3
        refine ev_if (ec_placed_l_r11 X I J R T s x y z i v2 v3 q3 _ _) (fun b4 => ?_) (fun b4 => ?_)
        · replace b4 := of_decide_eq_true b4
          refine ev_ret (ec_placed_l_r12 X I J R T s x y z i v2 v3 q3 _ _) ?_
          exact ⟨⟨_, rfl⟩, rfl, rfl, rfl⟩
        · replace b4 := of_decide_eq_false b4
          refine ev_call (ec_placed_l_r13 X I J R T s x y z i v2 v3 q3 _ _) (ec_within X (ev_hp I J R T) v3 0 ((I 1 4) - (1 : Int32))) ?_
          rintro _ _ _ _ ⟨rfl, rfl, rfl, rfl⟩
          generalize hq4 : (ev_wi v3 0 ((I 1 4) - (1 : Int32))) = q4
          refine ev_if (ec_placed_l_r14 X I J R T s x y z i v2 v3 q3 q4 _ _) (fun b5 => ?_) (fun b5 => ?_)
          · replace b5 := of_decide_eq_true b5
            refine ev_seg (ec_placed_l_r15 X I J R T s x y z i v2 v3 q3 q4 _ _) ?_
            exact ih _ _ (ev_up hm b1)
          · replace b5 := of_decide_eq_false b5
            refine ev_ret (ec_placed_l_r16 X I J R T s x y z i v2 v3 q3 q4 _ _) ?_
            exact ⟨⟨_, rfl⟩, rfl, rfl, rfl⟩
      · replace b3 := of_decide_eq_false b3
        refine ev_seg (ec_placed_l_r17 X I J R T s x y z i _ _) ?_
        exact ih _ _ (ev_up hm b1)
set_option maxRecDepth 100000 in
set_option maxHeartbeats 100000 in
theorem ec_placed_r1 (X : ez_X) (I : Nat → Nat → Int32) (J : Nat → Nat → Int64) (R : Nat → Nat) (T : List ez_C) (s : Int32) (x : Int32) (y : Int32) (cz kz : Nat) : ∀ G : ez_F, fx_up X 4 G 149 0 [.ref 1, .int s, .int x, .int y] [] (ev_hp I J R T) cz kz = G 149 6 [.ref 1, .int s, .int x, .int y, .long 0, ez_fill, .int 0] [] (ev_hp I J R T) cz kz := by
  intro G
  rfl
theorem ec_placed (X : ez_X) (I : Nat → Nat → Int32) (J : Nat → Nat → Int64) (R : Nat → Nat) (T : List ez_C) (s : Int32) (x : Int32) (y : Int32)  : ev_W X 149 0 (ez_lay [.ref 1, .int s, .int x, .int y]) [] (ev_hp I J R T) 0 0 (ev_anyJ (ev_hp I J R T)) := by
  refine ev_seg (ec_placed_r1 X I J R T s x y _ _) ?_
  exact ec_placed_l X I J R T s x y _ _ _ (Nat.lt_succ_self _)
set_option maxRecDepth 100000 in
set_option maxHeartbeats 100000 in
theorem ec_note_b_r1 (X : ez_X) (I : Nat → Nat → Int32) (J : Nat → Nat → Int64) (R : Nat → Nat) (T : List ez_C) (t : Int32) (s : Int64) (a : Int32) (d : Int32) (p : Int32) (b : Int32) (f : Nat → Int32) (i : Int32) (g : Nat → Int64) (cz kz : Nat) : ∀ G : ez_F, fx_up X 3 G 91 100 [.ref 3, .int t, .long s, ez_fill, .int a, .int d, .int p, .int b, .int i] [] (ev_hp (ev_sI I 5 f) (ev_sJ J 4 g) R T) cz kz = bif decide (i ≤ p) then G 91 139 [.ref 3, .int t, .long s, ez_fill, .int a, .int d, .int p, .int b, .int i] [] (ev_hp (ev_sI I 5 f) (ev_sJ J 4 g) R T) cz kz else G 91 107 [.ref 3, .int t, .long s, ez_fill, .int a, .int d, .int p, .int b, .int i] [] (ev_hp (ev_sI I 5 f) (ev_sJ J 4 g) R T) cz kz := by
  intro G
  rfl
set_option maxRecDepth 100000 in
set_option maxHeartbeats 100000 in
theorem ec_note_b_r2 (X : ez_X) (I : Nat → Nat → Int32) (J : Nat → Nat → Int64) (R : Nat → Nat) (T : List ez_C) (t : Int32) (s : Int64) (a : Int32) (d : Int32) (p : Int32) (b : Int32) (f : Nat → Int32) (i : Int32) (g : Nat → Int64) (cz kz : Nat) : ∀ G : ez_F, fx_up X 7 G 91 139 [.ref 3, .int t, .long s, ez_fill, .int a, .int d, .int p, .int b, .int i] [] (ev_hp (ev_sI I 5 f) (ev_sJ J 4 g) R T) cz kz = ev_C G 39 [.ref 4, .int (a + p), .long s] (ev_hp (ev_sI I 5 f) (ev_sJ J 4 g) R T) fun r h1 c1 k1 => G 91 152 [.ref 3, .int t, .long s, ez_fill, .int a, .int d, .int p, .int b, .int i] (r.toList ++ []) h1 (cz + c1) (kz + k1) := by
  intro G
  rfl
set_option maxRecDepth 100000 in
set_option maxHeartbeats 100000 in
theorem ec_note_b_r3 (X : ez_X) (I : Nat → Nat → Int32) (J : Nat → Nat → Int64) (R : Nat → Nat) (T : List ez_C) (t : Int32) (s : Int64) (a : Int32) (d : Int32) (p : Int32) (b : Int32) (f : Nat → Int32) (i : Int32) (g : Nat → Int64) (cz kz : Nat) : ∀ G : ez_F, fx_up X 7 G 91 152 [.ref 3, .int t, .long s, ez_fill, .int a, .int d, .int p, .int b, .int i] [] (ev_hp (ev_sI I 5 f) (ev_sJ J 4 (ev_putJ 864 g (a + p) s)) R T) cz kz = ev_C G 38 [.ref 5, .int t, .int (d + (1 : Int32))] (ev_hp (ev_sI I 5 f) (ev_sJ J 4 (ev_putJ 864 g (a + p) s)) R T) fun r h1 c1 k1 => G 91 164 [.ref 3, .int t, .long s, ez_fill, .int a, .int d, .int p, .int b, .int i] (r.toList ++ []) h1 (cz + c1) (kz + k1) := by
  intro G
  rfl
set_option maxRecDepth 100000 in
set_option maxHeartbeats 100000 in
theorem ec_note_b_r4 (X : ez_X) (I : Nat → Nat → Int32) (J : Nat → Nat → Int64) (R : Nat → Nat) (T : List ez_C) (t : Int32) (s : Int64) (a : Int32) (d : Int32) (p : Int32) (b : Int32) (f : Nat → Int32) (i : Int32) (g : Nat → Int64) (cz kz : Nat) : ∀ G : ez_F, fx_up X 1 G 91 164 [.ref 3, .int t, .long s, ez_fill, .int a, .int d, .int p, .int b, .int i] [] (ev_hp (ev_sI I 5 (ev_put 3 f t (d + (1 : Int32)))) (ev_sJ J 4 (ev_putJ 864 g (a + p) s)) R T) cz kz = some (none, (ev_hp (ev_sI I 5 (ev_put 3 f t (d + (1 : Int32)))) (ev_sJ J 4 (ev_putJ 864 g (a + p) s)) R T), cz, kz) := by
  intro G
  rfl
set_option maxRecDepth 100000 in
set_option maxHeartbeats 100000 in
theorem ec_note_b_r5 (X : ez_X) (I : Nat → Nat → Int32) (J : Nat → Nat → Int64) (R : Nat → Nat) (T : List ez_C) (t : Int32) (s : Int64) (a : Int32) (d : Int32) (p : Int32) (b : Int32) (f : Nat → Int32) (i : Int32) (g : Nat → Int64) (cz kz : Nat) : ∀ G : ez_F, fx_up X 13 G 91 107 [.ref 3, .int t, .long s, ez_fill, .int a, .int d, .int p, .int b, .int i] [] (ev_hp (ev_sI I 5 f) (ev_sJ J 4 g) R T) cz kz = ev_C G 4 [.ref 4, .int ((a + i) - (1 : Int32))] (ev_hp (ev_sI I 5 f) (ev_sJ J 4 g) R T) fun r h1 c1 k1 => G 91 130 [.ref 3, .int t, .long s, ez_fill, .int a, .int d, .int p, .int b, .int i] (r.toList ++ [.int (a + i), .ref 4]) h1 (cz + c1) (kz + k1) := by
  intro G
  rfl
set_option maxRecDepth 100000 in
set_option maxHeartbeats 100000 in
theorem ec_note_b_r6 (X : ez_X) (I : Nat → Nat → Int32) (J : Nat → Nat → Int64) (R : Nat → Nat) (T : List ez_C) (t : Int32) (s : Int64) (a : Int32) (d : Int32) (p : Int32) (b : Int32) (f : Nat → Int32) (i : Int32) (g : Nat → Int64) (q5 : Int64) (cz kz : Nat) : ∀ G : ez_F, fx_up X 1 G 91 130 [.ref 3, .int t, .long s, ez_fill, .int a, .int d, .int p, .int b, .int i] [.long q5, .int (a + i), .ref 4] (ev_hp (ev_sI I 5 f) (ev_sJ J 4 g) R T) cz kz = ev_C G 39 [.ref 4, .int (a + i), .long q5] (ev_hp (ev_sI I 5 f) (ev_sJ J 4 g) R T) fun r h1 c1 k1 => G 91 133 [.ref 3, .int t, .long s, ez_fill, .int a, .int d, .int p, .int b, .int i] (r.toList ++ []) h1 (cz + c1) (kz + k1) := by
  intro G
  rfl
set_option maxRecDepth 100000 in
set_option maxHeartbeats 100000 in
theorem ec_note_b_r7 (X : ez_X) (I : Nat → Nat → Int32) (J : Nat → Nat → Int64) (R : Nat → Nat) (T : List ez_C) (t : Int32) (s : Int64) (a : Int32) (d : Int32) (p : Int32) (b : Int32) (f : Nat → Int32) (i : Int32) (g : Nat → Int64) (q5 : Int64) (cz kz : Nat) : ∀ G : ez_F, fx_up X 2 G 91 133 [.ref 3, .int t, .long s, ez_fill, .int a, .int d, .int p, .int b, .int i] [] (ev_hp (ev_sI I 5 f) (ev_sJ J 4 (ev_putJ 864 g (a + i) q5)) R T) cz kz = G 91 100 [.ref 3, .int t, .long s, ez_fill, .int a, .int d, .int p, .int b, .int (i + ((-1) : Int32))] [] (ev_hp (ev_sI I 5 f) (ev_sJ J 4 (ev_putJ 864 g (a + i) q5)) R T) cz kz := by
  intro G
  rfl
theorem ec_note_b (X : ez_X) (I : Nat → Nat → Int32) (J : Nat → Nat → Int64) (R : Nat → Nat) (T : List ez_C) (t : Int32) (s : Int64) (a : Int32) (d : Int32) (p : Int32) (b : Int32) (f : Nat → Int32)  : ∀ (n : Nat) (i : Int32) (g : Nat → Int64), (i.toInt - p.toInt).toNat < n → ev_W X 91 100 [.ref 3, .int t, .long s, ez_fill, .int a, .int d, .int p, .int b, .int i] [] (ev_hp (ev_sI I 5 f) (ev_sJ J 4 g) R T) 0 0 (fun r h1 c1 k1 => r = none ∧ (∃ f g, h1 = ev_hp (ev_sI I 5 f) (ev_sJ J 4 g) R T) ∧ c1 = 0 ∧ k1 = 0) := by
  intro n
  induction n with
  | zero => intro i g hm; exact absurd hm (Nat.not_lt_zero _)
  | succ n ih =>
    intro i g hm
    refine ev_if (ec_note_b_r1 X I J R T t s a d p b f i g _ _) (fun b1 => ?_) (fun b1 => ?_)
    · replace b1 := of_decide_eq_true b1
      refine ev_call (ec_note_b_r2 X I J R T t s a d p b f i g _ _) (ec_putJ X (ev_hp (ev_sI I 5 f) (ev_sJ J 4 g) R T) 864 4 (a + p) s g rfl (by decide)) ?_
      rintro _ _ _ _ ⟨rfl, rfl, rfl, rfl⟩
      refine ev_call (ec_note_b_r3 X I J R T t s a d p b f i g _ _) (ec_put X (ev_hp (ev_sI I 5 f) (ev_sJ J 4 (ev_putJ 864 g (a + p) s)) R T) 3 5 t (d + (1 : Int32)) f rfl (by decide)) ?_
      rintro _ _ _ _ ⟨rfl, rfl, rfl, rfl⟩
      refine ev_ret (ec_note_b_r4 X I J R T t s a d p b f i g _ _) ?_
      exact ⟨rfl, ⟨_, _, rfl⟩, rfl, rfl⟩
    · replace b1 := of_decide_eq_false b1
      refine ev_call (ec_note_b_r5 X I J R T t s a d p b f i g _ _) (ec_atJ X (ev_hp (ev_sI I 5 f) (ev_sJ J 4 g) R T) 864 4 ((a + i) - (1 : Int32)) g rfl (by decide)) ?_
      rintro _ _ _ _ ⟨rfl, rfl, rfl, rfl⟩
      generalize hq5 : ev_atJ 864 g ((a + i) - (1 : Int32)) = q5
      refine ev_call (ec_note_b_r6 X I J R T t s a d p b f i g q5 _ _) (ec_putJ X (ev_hp (ev_sI I 5 f) (ev_sJ J 4 g) R T) 864 4 (a + i) q5 g rfl (by decide)) ?_
      rintro _ _ _ _ ⟨rfl, rfl, rfl, rfl⟩
      refine ev_seg (ec_note_b_r7 X I J R T t s a d p b f i g q5 _ _) ?_
      exact ih _ _ (ev_down hm b1)
set_option maxRecDepth 100000 in
set_option maxHeartbeats 100000 in
theorem ec_note_a_r1 (X : ez_X) (I : Nat → Nat → Int32) (J : Nat → Nat → Int64) (R : Nat → Nat) (T : List ez_C) (t : Int32) (s : Int64) (a : Int32) (d : Int32) (f : Nat → Int32) (g : Nat → Int64) (p : Int32) (cz kz : Nat) : ∀ G : ez_F, fx_up X 2 G 91 21 [.ref 3, .int t, .long s, ez_fill, .int a, .int d, .int p] [] (ev_hp (ev_sI I 5 f) (ev_sJ J 4 g) R T) cz kz = bif decide (p ≤ 0) then G 91 51 [.ref 3, .int t, .long s, ez_fill, .int a, .int d, .int p] [] (ev_hp (ev_sI I 5 f) (ev_sJ J 4 g) R T) cz kz else G 91 26 [.ref 3, .int t, .long s, ez_fill, .int a, .int d, .int p] [] (ev_hp (ev_sI I 5 f) (ev_sJ J 4 g) R T) cz kz := by
  intro G
  rfl
set_option maxRecDepth 100000 in
set_option maxHeartbeats 100000 in
theorem ec_note_a_r2 (X : ez_X) (I : Nat → Nat → Int32) (J : Nat → Nat → Int64) (R : Nat → Nat) (T : List ez_C) (t : Int32) (s : Int64) (a : Int32) (d : Int32) (f : Nat → Int32) (g : Nat → Int64) (p : Int32) (cz kz : Nat) : ∀ G : ez_F, fx_up X 3 G 91 51 [.ref 3, .int t, .long s, ez_fill, .int a, .int d, .int p] [] (ev_hp (ev_sI I 5 f) (ev_sJ J 4 g) R T) cz kz = bif decide (d ≤ p) then G 91 79 [.ref 3, .int t, .long s, ez_fill, .int a, .int d, .int p] [] (ev_hp (ev_sI I 5 f) (ev_sJ J 4 g) R T) cz kz else G 91 58 [.ref 3, .int t, .long s, ez_fill, .int a, .int d, .int p] [] (ev_hp (ev_sI I 5 f) (ev_sJ J 4 g) R T) cz kz := by
  intro G
  rfl
set_option maxRecDepth 100000 in
set_option maxHeartbeats 100000 in
theorem ec_note_a_r3 (X : ez_X) (I : Nat → Nat → Int32) (J : Nat → Nat → Int64) (R : Nat → Nat) (T : List ez_C) (t : Int32) (s : Int64) (a : Int32) (d : Int32) (f : Nat → Int32) (g : Nat → Int64) (p : Int32) (cz kz : Nat) : ∀ G : ez_F, fx_up X 7 G 91 79 [.ref 3, .int t, .long s, ez_fill, .int a, .int d, .int p] [] (ev_hp (ev_sI I 5 f) (ev_sJ J 4 g) R T) cz kz = bif decide (d < 288) then G 91 96 [.ref 3, .int t, .long s, ez_fill, .int a, .int d, .int p, .int 0] [] (ev_hp (ev_sI I 5 f) (ev_sJ J 4 g) R T) cz kz else G 91 95 [.ref 3, .int t, .long s, ez_fill, .int a, .int d, .int p, .int 0] [] (ev_hp (ev_sI I 5 f) (ev_sJ J 4 g) R T) cz kz := by
  intro G
  rfl
set_option maxRecDepth 100000 in
set_option maxHeartbeats 100000 in
theorem ec_note_a_r4 (X : ez_X) (I : Nat → Nat → Int32) (J : Nat → Nat → Int64) (R : Nat → Nat) (T : List ez_C) (t : Int32) (s : Int64) (a : Int32) (d : Int32) (f : Nat → Int32) (g : Nat → Int64) (p : Int32) (cz kz : Nat) : ∀ G : ez_F, fx_up X 2 G 91 96 [.ref 3, .int t, .long s, ez_fill, .int a, .int d, .int p, .int 0] [] (ev_hp (ev_sI I 5 f) (ev_sJ J 4 g) R T) cz kz = G 91 100 [.ref 3, .int t, .long s, ez_fill, .int a, .int d, .int p, .int 0, .int d] [] (ev_hp (ev_sI I 5 f) (ev_sJ J 4 g) R T) cz kz := by
  intro G
  rfl
set_option maxRecDepth 100000 in
set_option maxHeartbeats 100000 in
theorem ec_note_a_r5 (X : ez_X) (I : Nat → Nat → Int32) (J : Nat → Nat → Int64) (R : Nat → Nat) (T : List ez_C) (t : Int32) (s : Int64) (a : Int32) (d : Int32) (f : Nat → Int32) (g : Nat → Int64) (p : Int32) (cz kz : Nat) : ∀ G : ez_F, fx_up X 1 G 91 95 [.ref 3, .int t, .long s, ez_fill, .int a, .int d, .int p, .int 0] [] (ev_hp (ev_sI I 5 f) (ev_sJ J 4 g) R T) cz kz = some (none, (ev_hp (ev_sI I 5 f) (ev_sJ J 4 g) R T), cz, kz) := by
  intro G
  rfl
set_option maxRecDepth 100000 in
set_option maxHeartbeats 100000 in
theorem ec_note_a_r6 (X : ez_X) (I : Nat → Nat → Int32) (J : Nat → Nat → Int64) (R : Nat → Nat) (T : List ez_C) (t : Int32) (s : Int64) (a : Int32) (d : Int32) (f : Nat → Int32) (g : Nat → Int64) (p : Int32) (cz kz : Nat) : ∀ G : ez_F, fx_up X 6 G 91 58 [.ref 3, .int t, .long s, ez_fill, .int a, .int d, .int p] [] (ev_hp (ev_sI I 5 f) (ev_sJ J 4 g) R T) cz kz = ev_C G 4 [.ref 4, .int (a + p)] (ev_hp (ev_sI I 5 f) (ev_sJ J 4 g) R T) fun r h1 c1 k1 => G 91 70 [.ref 3, .int t, .long s, ez_fill, .int a, .int d, .int p] (r.toList ++ []) h1 (cz + c1) (kz + k1) := by
  intro G
  rfl
set_option maxRecDepth 100000 in
set_option maxHeartbeats 100000 in
theorem ec_note_a_r7 (X : ez_X) (I : Nat → Nat → Int32) (J : Nat → Nat → Int64) (R : Nat → Nat) (T : List ez_C) (t : Int32) (s : Int64) (a : Int32) (d : Int32) (f : Nat → Int32) (g : Nat → Int64) (p : Int32) (q6 : Int64) (cz kz : Nat) : ∀ G : ez_F, fx_up X 3 G 91 70 [.ref 3, .int t, .long s, ez_fill, .int a, .int d, .int p] [.long q6] (ev_hp (ev_sI I 5 f) (ev_sJ J 4 g) R T) cz kz = bif decide (¬ (lg_cmp q6 s) = 0) then G 91 79 [.ref 3, .int t, .long s, ez_fill, .int a, .int d, .int p] [] (ev_hp (ev_sI I 5 f) (ev_sJ J 4 g) R T) cz kz else G 91 75 [.ref 3, .int t, .long s, ez_fill, .int a, .int d, .int p] [] (ev_hp (ev_sI I 5 f) (ev_sJ J 4 g) R T) cz kz := by
  intro G
  rfl
set_option maxRecDepth 100000 in
set_option maxHeartbeats 100000 in
theorem ec_note_a_r8 (X : ez_X) (I : Nat → Nat → Int32) (J : Nat → Nat → Int64) (R : Nat → Nat) (T : List ez_C) (t : Int32) (s : Int64) (a : Int32) (d : Int32) (f : Nat → Int32) (g : Nat → Int64) (p : Int32) (q6 : Int64) (cz kz : Nat) : ∀ G : ez_F, fx_up X 7 G 91 79 [.ref 3, .int t, .long s, ez_fill, .int a, .int d, .int p] [] (ev_hp (ev_sI I 5 f) (ev_sJ J 4 g) R T) cz kz = bif decide (d < 288) then G 91 96 [.ref 3, .int t, .long s, ez_fill, .int a, .int d, .int p, .int 0] [] (ev_hp (ev_sI I 5 f) (ev_sJ J 4 g) R T) cz kz else G 91 95 [.ref 3, .int t, .long s, ez_fill, .int a, .int d, .int p, .int 0] [] (ev_hp (ev_sI I 5 f) (ev_sJ J 4 g) R T) cz kz := by
  intro G
  rfl
set_option maxRecDepth 100000 in
set_option maxHeartbeats 100000 in
theorem ec_note_a_r9 (X : ez_X) (I : Nat → Nat → Int32) (J : Nat → Nat → Int64) (R : Nat → Nat) (T : List ez_C) (t : Int32) (s : Int64) (a : Int32) (d : Int32) (f : Nat → Int32) (g : Nat → Int64) (p : Int32) (q6 : Int64) (cz kz : Nat) : ∀ G : ez_F, fx_up X 2 G 91 96 [.ref 3, .int t, .long s, ez_fill, .int a, .int d, .int p, .int 0] [] (ev_hp (ev_sI I 5 f) (ev_sJ J 4 g) R T) cz kz = G 91 100 [.ref 3, .int t, .long s, ez_fill, .int a, .int d, .int p, .int 0, .int d] [] (ev_hp (ev_sI I 5 f) (ev_sJ J 4 g) R T) cz kz := by
  intro G
  rfl
set_option maxRecDepth 100000 in
set_option maxHeartbeats 100000 in
theorem ec_note_a_r10 (X : ez_X) (I : Nat → Nat → Int32) (J : Nat → Nat → Int64) (R : Nat → Nat) (T : List ez_C) (t : Int32) (s : Int64) (a : Int32) (d : Int32) (f : Nat → Int32) (g : Nat → Int64) (p : Int32) (q6 : Int64) (cz kz : Nat) : ∀ G : ez_F, fx_up X 1 G 91 95 [.ref 3, .int t, .long s, ez_fill, .int a, .int d, .int p, .int 0] [] (ev_hp (ev_sI I 5 f) (ev_sJ J 4 g) R T) cz kz = some (none, (ev_hp (ev_sI I 5 f) (ev_sJ J 4 g) R T), cz, kz) := by
  intro G
  rfl
set_option maxRecDepth 100000 in
set_option maxHeartbeats 100000 in
theorem ec_note_a_r11 (X : ez_X) (I : Nat → Nat → Int32) (J : Nat → Nat → Int64) (R : Nat → Nat) (T : List ez_C) (t : Int32) (s : Int64) (a : Int32) (d : Int32) (f : Nat → Int32) (g : Nat → Int64) (p : Int32) (q6 : Int64) (cz kz : Nat) : ∀ G : ez_F, fx_up X 6 G 91 75 [.ref 3, .int t, .long s, ez_fill, .int a, .int d, .int p] [] (ev_hp (ev_sI I 5 f) (ev_sJ J 4 g) R T) cz kz = some (none, (ev_hp (ev_sI I 5 f) (ev_sJ J 4 g) R T), cz, kz) := by
  intro G
  rfl
set_option maxRecDepth 100000 in
set_option maxHeartbeats 100000 in
theorem ec_note_a_r12 (X : ez_X) (I : Nat → Nat → Int32) (J : Nat → Nat → Int64) (R : Nat → Nat) (T : List ez_C) (t : Int32) (s : Int64) (a : Int32) (d : Int32) (f : Nat → Int32) (g : Nat → Int64) (p : Int32) (cz kz : Nat) : ∀ G : ez_F, fx_up X 8 G 91 26 [.ref 3, .int t, .long s, ez_fill, .int a, .int d, .int p] [] (ev_hp (ev_sI I 5 f) (ev_sJ J 4 g) R T) cz kz = ev_C G 4 [.ref 4, .int ((a + p) - (1 : Int32))] (ev_hp (ev_sI I 5 f) (ev_sJ J 4 g) R T) fun r h1 c1 k1 => G 91 40 [.ref 3, .int t, .long s, ez_fill, .int a, .int d, .int p] (r.toList ++ []) h1 (cz + c1) (kz + k1) := by
  intro G
  rfl
set_option maxRecDepth 100000 in
set_option maxHeartbeats 100000 in
theorem ec_note_a_r13 (X : ez_X) (I : Nat → Nat → Int32) (J : Nat → Nat → Int64) (R : Nat → Nat) (T : List ez_C) (t : Int32) (s : Int64) (a : Int32) (d : Int32) (f : Nat → Int32) (g : Nat → Int64) (p : Int32) (q7 : Int64) (cz kz : Nat) : ∀ G : ez_F, fx_up X 3 G 91 40 [.ref 3, .int t, .long s, ez_fill, .int a, .int d, .int p] [.long q7] (ev_hp (ev_sI I 5 f) (ev_sJ J 4 g) R T) cz kz = bif decide ((lg_cmp q7 s) < 0) then G 91 51 [.ref 3, .int t, .long s, ez_fill, .int a, .int d, .int p] [] (ev_hp (ev_sI I 5 f) (ev_sJ J 4 g) R T) cz kz else G 91 45 [.ref 3, .int t, .long s, ez_fill, .int a, .int d, .int p] [] (ev_hp (ev_sI I 5 f) (ev_sJ J 4 g) R T) cz kz := by
  intro G
  rfl
set_option maxRecDepth 100000 in
set_option maxHeartbeats 100000 in
theorem ec_note_a_r14 (X : ez_X) (I : Nat → Nat → Int32) (J : Nat → Nat → Int64) (R : Nat → Nat) (T : List ez_C) (t : Int32) (s : Int64) (a : Int32) (d : Int32) (f : Nat → Int32) (g : Nat → Int64) (p : Int32) (q7 : Int64) (cz kz : Nat) : ∀ G : ez_F, fx_up X 3 G 91 51 [.ref 3, .int t, .long s, ez_fill, .int a, .int d, .int p] [] (ev_hp (ev_sI I 5 f) (ev_sJ J 4 g) R T) cz kz = bif decide (d ≤ p) then G 91 79 [.ref 3, .int t, .long s, ez_fill, .int a, .int d, .int p] [] (ev_hp (ev_sI I 5 f) (ev_sJ J 4 g) R T) cz kz else G 91 58 [.ref 3, .int t, .long s, ez_fill, .int a, .int d, .int p] [] (ev_hp (ev_sI I 5 f) (ev_sJ J 4 g) R T) cz kz := by
  intro G
  rfl
set_option maxRecDepth 100000 in
set_option maxHeartbeats 100000 in
theorem ec_note_a_r15 (X : ez_X) (I : Nat → Nat → Int32) (J : Nat → Nat → Int64) (R : Nat → Nat) (T : List ez_C) (t : Int32) (s : Int64) (a : Int32) (d : Int32) (f : Nat → Int32) (g : Nat → Int64) (p : Int32) (q7 : Int64) (cz kz : Nat) : ∀ G : ez_F, fx_up X 7 G 91 79 [.ref 3, .int t, .long s, ez_fill, .int a, .int d, .int p] [] (ev_hp (ev_sI I 5 f) (ev_sJ J 4 g) R T) cz kz = bif decide (d < 288) then G 91 96 [.ref 3, .int t, .long s, ez_fill, .int a, .int d, .int p, .int 0] [] (ev_hp (ev_sI I 5 f) (ev_sJ J 4 g) R T) cz kz else G 91 95 [.ref 3, .int t, .long s, ez_fill, .int a, .int d, .int p, .int 0] [] (ev_hp (ev_sI I 5 f) (ev_sJ J 4 g) R T) cz kz := by
  intro G
  rfl
set_option maxRecDepth 100000 in
set_option maxHeartbeats 100000 in
theorem ec_note_a_r16 (X : ez_X) (I : Nat → Nat → Int32) (J : Nat → Nat → Int64) (R : Nat → Nat) (T : List ez_C) (t : Int32) (s : Int64) (a : Int32) (d : Int32) (f : Nat → Int32) (g : Nat → Int64) (p : Int32) (q7 : Int64) (cz kz : Nat) : ∀ G : ez_F, fx_up X 2 G 91 96 [.ref 3, .int t, .long s, ez_fill, .int a, .int d, .int p, .int 0] [] (ev_hp (ev_sI I 5 f) (ev_sJ J 4 g) R T) cz kz = G 91 100 [.ref 3, .int t, .long s, ez_fill, .int a, .int d, .int p, .int 0, .int d] [] (ev_hp (ev_sI I 5 f) (ev_sJ J 4 g) R T) cz kz := by
  intro G
  rfl
set_option maxRecDepth 100000 in
set_option maxHeartbeats 100000 in
theorem ec_note_a_r17 (X : ez_X) (I : Nat → Nat → Int32) (J : Nat → Nat → Int64) (R : Nat → Nat) (T : List ez_C) (t : Int32) (s : Int64) (a : Int32) (d : Int32) (f : Nat → Int32) (g : Nat → Int64) (p : Int32) (q7 : Int64) (cz kz : Nat) : ∀ G : ez_F, fx_up X 1 G 91 95 [.ref 3, .int t, .long s, ez_fill, .int a, .int d, .int p, .int 0] [] (ev_hp (ev_sI I 5 f) (ev_sJ J 4 g) R T) cz kz = some (none, (ev_hp (ev_sI I 5 f) (ev_sJ J 4 g) R T), cz, kz) := by
  intro G
  rfl
set_option maxRecDepth 100000 in
set_option maxHeartbeats 100000 in
theorem ec_note_a_r18 (X : ez_X) (I : Nat → Nat → Int32) (J : Nat → Nat → Int64) (R : Nat → Nat) (T : List ez_C) (t : Int32) (s : Int64) (a : Int32) (d : Int32) (f : Nat → Int32) (g : Nat → Int64) (p : Int32) (q7 : Int64) (cz kz : Nat) : ∀ G : ez_F, fx_up X 6 G 91 58 [.ref 3, .int t, .long s, ez_fill, .int a, .int d, .int p] [] (ev_hp (ev_sI I 5 f) (ev_sJ J 4 g) R T) cz kz = ev_C G 4 [.ref 4, .int (a + p)] (ev_hp (ev_sI I 5 f) (ev_sJ J 4 g) R T) fun r h1 c1 k1 => G 91 70 [.ref 3, .int t, .long s, ez_fill, .int a, .int d, .int p] (r.toList ++ []) h1 (cz + c1) (kz + k1) := by
  intro G
  rfl
set_option maxRecDepth 100000 in
set_option maxHeartbeats 100000 in
theorem ec_note_a_r19 (X : ez_X) (I : Nat → Nat → Int32) (J : Nat → Nat → Int64) (R : Nat → Nat) (T : List ez_C) (t : Int32) (s : Int64) (a : Int32) (d : Int32) (f : Nat → Int32) (g : Nat → Int64) (p : Int32) (q7 : Int64) (q8 : Int64) (cz kz : Nat) : ∀ G : ez_F, fx_up X 3 G 91 70 [.ref 3, .int t, .long s, ez_fill, .int a, .int d, .int p] [.long q8] (ev_hp (ev_sI I 5 f) (ev_sJ J 4 g) R T) cz kz = bif decide (¬ (lg_cmp q8 s) = 0) then G 91 79 [.ref 3, .int t, .long s, ez_fill, .int a, .int d, .int p] [] (ev_hp (ev_sI I 5 f) (ev_sJ J 4 g) R T) cz kz else G 91 75 [.ref 3, .int t, .long s, ez_fill, .int a, .int d, .int p] [] (ev_hp (ev_sI I 5 f) (ev_sJ J 4 g) R T) cz kz := by
  intro G
  rfl
set_option maxRecDepth 100000 in
set_option maxHeartbeats 100000 in
theorem ec_note_a_r20 (X : ez_X) (I : Nat → Nat → Int32) (J : Nat → Nat → Int64) (R : Nat → Nat) (T : List ez_C) (t : Int32) (s : Int64) (a : Int32) (d : Int32) (f : Nat → Int32) (g : Nat → Int64) (p : Int32) (q7 : Int64) (q8 : Int64) (cz kz : Nat) : ∀ G : ez_F, fx_up X 7 G 91 79 [.ref 3, .int t, .long s, ez_fill, .int a, .int d, .int p] [] (ev_hp (ev_sI I 5 f) (ev_sJ J 4 g) R T) cz kz = bif decide (d < 288) then G 91 96 [.ref 3, .int t, .long s, ez_fill, .int a, .int d, .int p, .int 0] [] (ev_hp (ev_sI I 5 f) (ev_sJ J 4 g) R T) cz kz else G 91 95 [.ref 3, .int t, .long s, ez_fill, .int a, .int d, .int p, .int 0] [] (ev_hp (ev_sI I 5 f) (ev_sJ J 4 g) R T) cz kz := by
  intro G
  rfl
set_option maxRecDepth 100000 in
set_option maxHeartbeats 100000 in
theorem ec_note_a_r21 (X : ez_X) (I : Nat → Nat → Int32) (J : Nat → Nat → Int64) (R : Nat → Nat) (T : List ez_C) (t : Int32) (s : Int64) (a : Int32) (d : Int32) (f : Nat → Int32) (g : Nat → Int64) (p : Int32) (q7 : Int64) (q8 : Int64) (cz kz : Nat) : ∀ G : ez_F, fx_up X 2 G 91 96 [.ref 3, .int t, .long s, ez_fill, .int a, .int d, .int p, .int 0] [] (ev_hp (ev_sI I 5 f) (ev_sJ J 4 g) R T) cz kz = G 91 100 [.ref 3, .int t, .long s, ez_fill, .int a, .int d, .int p, .int 0, .int d] [] (ev_hp (ev_sI I 5 f) (ev_sJ J 4 g) R T) cz kz := by
  intro G
  rfl
set_option maxRecDepth 100000 in
set_option maxHeartbeats 100000 in
theorem ec_note_a_r22 (X : ez_X) (I : Nat → Nat → Int32) (J : Nat → Nat → Int64) (R : Nat → Nat) (T : List ez_C) (t : Int32) (s : Int64) (a : Int32) (d : Int32) (f : Nat → Int32) (g : Nat → Int64) (p : Int32) (q7 : Int64) (q8 : Int64) (cz kz : Nat) : ∀ G : ez_F, fx_up X 1 G 91 95 [.ref 3, .int t, .long s, ez_fill, .int a, .int d, .int p, .int 0] [] (ev_hp (ev_sI I 5 f) (ev_sJ J 4 g) R T) cz kz = some (none, (ev_hp (ev_sI I 5 f) (ev_sJ J 4 g) R T), cz, kz) := by
  intro G
  rfl
set_option maxRecDepth 100000 in
set_option maxHeartbeats 100000 in
theorem ec_note_a_r23 (X : ez_X) (I : Nat → Nat → Int32) (J : Nat → Nat → Int64) (R : Nat → Nat) (T : List ez_C) (t : Int32) (s : Int64) (a : Int32) (d : Int32) (f : Nat → Int32) (g : Nat → Int64) (p : Int32) (q7 : Int64) (q8 : Int64) (cz kz : Nat) : ∀ G : ez_F, fx_up X 6 G 91 75 [.ref 3, .int t, .long s, ez_fill, .int a, .int d, .int p] [] (ev_hp (ev_sI I 5 f) (ev_sJ J 4 g) R T) cz kz = some (none, (ev_hp (ev_sI I 5 f) (ev_sJ J 4 g) R T), cz, kz) := by
  intro G
  rfl
set_option maxRecDepth 100000 in
set_option maxHeartbeats 100000 in
theorem ec_note_a_r24 (X : ez_X) (I : Nat → Nat → Int32) (J : Nat → Nat → Int64) (R : Nat → Nat) (T : List ez_C) (t : Int32) (s : Int64) (a : Int32) (d : Int32) (f : Nat → Int32) (g : Nat → Int64) (p : Int32) (q7 : Int64) (cz kz : Nat) : ∀ G : ez_F, fx_up X 2 G 91 45 [.ref 3, .int t, .long s, ez_fill, .int a, .int d, .int p] [] (ev_hp (ev_sI I 5 f) (ev_sJ J 4 g) R T) cz kz = G 91 21 [.ref 3, .int t, .long s, ez_fill, .int a, .int d, .int (p + ((-1) : Int32))] [] (ev_hp (ev_sI I 5 f) (ev_sJ J 4 g) R T) cz kz := by
  intro G
  rfl
theorem ec_note_a (X : ez_X) (I : Nat → Nat → Int32) (J : Nat → Nat → Int64) (R : Nat → Nat) (T : List ez_C) (t : Int32) (s : Int64) (a : Int32) (d : Int32) (f : Nat → Int32) (g : Nat → Int64)  : ∀ (n : Nat) (p : Int32), (p.toInt - (0 : Int32).toInt).toNat < n → ev_W X 91 21 [.ref 3, .int t, .long s, ez_fill, .int a, .int d, .int p] [] (ev_hp (ev_sI I 5 f) (ev_sJ J 4 g) R T) 0 0 (fun r h1 c1 k1 => r = none ∧ (∃ f g, h1 = ev_hp (ev_sI I 5 f) (ev_sJ J 4 g) R T) ∧ c1 = 0 ∧ k1 = 0) := by
  intro n
  induction n with
  | zero => intro p hm; exact absurd hm (Nat.not_lt_zero _)
  | succ n ih =>
    intro p hm
    refine ev_if (ec_note_a_r1 X I J R T t s a d f g p _ _) (fun b1 => ?_) (fun b1 => ?_)
    · replace b1 := of_decide_eq_true b1
      refine ev_if (ec_note_a_r2 X I J R T t s a d f g p _ _) (fun b2 => ?_) (fun b2 => ?_)
      · replace b2 := of_decide_eq_true b2
        refine ev_if (ec_note_a_r3 X I J R T t s a d f g p _ _) (fun b3 => ?_) (fun b3 => ?_)
        · replace b3 := of_decide_eq_true b3
          refine ev_seg (ec_note_a_r4 X I J R T t s a d f g p _ _) ?_
          exact ec_note_b X I J R T t s _ _ _ _ _ _ _ _ (Nat.lt_succ_self _)
        · replace b3 := of_decide_eq_false b3
          refine ev_ret (ec_note_a_r5 X I J R T t s a d f g p _ _) ?_
          exact ⟨rfl, ⟨_, _, rfl⟩, rfl, rfl⟩
      · replace b2 := of_decide_eq_false b2
        refine ev_call (ec_note_a_r6 X I J R T t s a d f g p _ _) (ec_atJ X (ev_hp (ev_sI I 5 f) (ev_sJ J 4 g) R T) 864 4 (a + p) g rfl (by decide)) ?_
        rintro _ _ _ _ ⟨rfl, rfl, rfl, rfl⟩
        generalize hq6 : ev_atJ 864 g (a + p) = q6
        refine ev_if (ec_note_a_r7 X I J R T t s a d f g p q6 _ _) (fun b4 => ?_) (fun b4 => ?_)
        · replace b4 := of_decide_eq_true b4
          refine ev_if (ec_note_a_r8 X I J R T t s a d f g p q6 _ _) (fun b5 => ?_) (fun b5 => ?_)
          · replace b5 := of_decide_eq_true b5
            refine ev_seg (ec_note_a_r9 X I J R T t s a d f g p q6 _ _) ?_
            exact ec_note_b X I J R T t s _ _ _ _ _ _ _ _ (Nat.lt_succ_self _)
          · replace b5 := of_decide_eq_false b5
            refine ev_ret (ec_note_a_r10 X I J R T t s a d f g p q6 _ _) ?_
            exact ⟨rfl, ⟨_, _, rfl⟩, rfl, rfl⟩
        · replace b4 := of_decide_eq_false b4
          refine ev_ret (ec_note_a_r11 X I J R T t s a d f g p q6 _ _) ?_
          exact ⟨rfl, ⟨_, _, rfl⟩, rfl, rfl⟩
    · replace b1 := of_decide_eq_false b1
      refine ev_call (ec_note_a_r12 X I J R T t s a d f g p _ _) (ec_atJ X (ev_hp (ev_sI I 5 f) (ev_sJ J 4 g) R T) 864 4 ((a + p) - (1 : Int32)) g rfl (by decide)) ?_
      rintro _ _ _ _ ⟨rfl, rfl, rfl, rfl⟩
      generalize hq7 : ev_atJ 864 g ((a + p) - (1 : Int32)) = q7
      refine ev_if (ec_note_a_r13 X I J R T t s a d f g p q7 _ _) (fun b6 => ?_) (fun b6 => ?_)
      · replace b6 := of_decide_eq_true b6
        refine ev_if (ec_note_a_r14 X I J R T t s a d f g p q7 _ _) (fun b7 => ?_) (fun b7 => ?_)
        · replace b7 := of_decide_eq_true b7
          refine ev_if (ec_note_a_r15 X I J R T t s a d f g p q7 _ _) (fun b8 => ?_) (fun b8 => ?_)
          · replace b8 := of_decide_eq_true b8
            refine ev_seg (ec_note_a_r16 X I J R T t s a d f g p q7 _ _) ?_
            exact ec_note_b X I J R T t s _ _ _ _ _ _ _ _ (Nat.lt_succ_self _)
          · replace b8 := of_decide_eq_false b8
            refine ev_ret (ec_note_a_r17 X I J R T t s a d f g p q7 _ _) ?_
            exact ⟨rfl, ⟨_, _, rfl⟩, rfl, rfl⟩
        · replace b7 := of_decide_eq_false b7
          refine ev_call (ec_note_a_r18 X I J R T t s a d f g p q7 _ _) (ec_atJ X (ev_hp (ev_sI I 5 f) (ev_sJ J 4 g) R T) 864 4 (a + p) g rfl (by decide)) ?_
          rintro _ _ _ _ ⟨rfl, rfl, rfl, rfl⟩
          generalize hq8 : ev_atJ 864 g (a + p) = q8
          refine ev_if (ec_note_a_r19 X I J R T t s a d f g p q7 q8 _ _) (fun b9 => ?_) (fun b9 => ?_)
          · replace b9 := of_decide_eq_true b9
            refine ev_if (ec_note_a_r20 X I J R T t s a d f g p q7 q8 _ _) (fun b10 => ?_) (fun b10 => ?_)
            · replace b10 := of_decide_eq_true b10
              refine ev_seg (ec_note_a_r21 X I J R T t s a d f g p q7 q8 _ _) ?_
              exact ec_note_b X I J R T t s _ _ _ _ _ _ _ _ (Nat.lt_succ_self _)
            · replace b10 := of_decide_eq_false b10
              refine ev_ret (ec_note_a_r22 X I J R T t s a d f g p q7 q8 _ _) ?_
              exact ⟨rfl, ⟨_, _, rfl⟩, rfl, rfl⟩
          · replace b9 := of_decide_eq_false b9
            refine ev_ret (ec_note_a_r23 X I J R T t s a d f g p q7 q8 _ _) ?_
            exact ⟨rfl, ⟨_, _, rfl⟩, rfl, rfl⟩
      · replace b6 := of_decide_eq_false b6
        refine ev_seg (ec_note_a_r24 X I J R T t s a d f g p q7 _ _) ?_
        exact ih _ (ev_down hm b1)
set_option maxRecDepth 100000 in
set_option maxHeartbeats 100000 in
theorem ec_note_r1 (X : ez_X) (I : Nat → Nat → Int32) (J : Nat → Nat → Int64) (R : Nat → Nat) (T : List ez_C) (t : Int32) (s : Int64) (f : Nat → Int32) (g : Nat → Int64) (cz kz : Nat) : ∀ G : ez_F, fx_up X 8 G 91 0 [.ref 3, .int t, .long s, ez_fill] [] (ev_hp (ev_sI I 5 f) (ev_sJ J 4 g) R T) cz kz = ev_C G 3 [.ref 5, .int t] (ev_hp (ev_sI I 5 f) (ev_sJ J 4 g) R T) fun r h1 c1 k1 => G 91 15 [.ref 3, .int t, .long s, ez_fill, .int ((288 : Int32) * t)] (r.toList ++ []) h1 (cz + c1) (kz + k1) := by
  intro G
  rfl
set_option maxRecDepth 100000 in
set_option maxHeartbeats 100000 in
theorem ec_note_r2 (X : ez_X) (I : Nat → Nat → Int32) (J : Nat → Nat → Int64) (R : Nat → Nat) (T : List ez_C) (t : Int32) (s : Int64) (f : Nat → Int32) (g : Nat → Int64) (q9 : Int32) (cz kz : Nat) : ∀ G : ez_F, fx_up X 3 G 91 15 [.ref 3, .int t, .long s, ez_fill, .int ((288 : Int32) * t)] [.int q9] (ev_hp (ev_sI I 5 f) (ev_sJ J 4 g) R T) cz kz = G 91 21 [.ref 3, .int t, .long s, ez_fill, .int ((288 : Int32) * t), .int q9, .int q9] [] (ev_hp (ev_sI I 5 f) (ev_sJ J 4 g) R T) cz kz := by
  intro G
  rfl
theorem ec_note (X : ez_X) (I : Nat → Nat → Int32) (J : Nat → Nat → Int64) (R : Nat → Nat) (T : List ez_C) (t : Int32) (s : Int64) (f : Nat → Int32) (g : Nat → Int64)  : ev_W X 91 0 (ez_lay [.ref 3, .int t, .long s]) [] (ev_hp (ev_sI I 5 f) (ev_sJ J 4 g) R T) 0 0 (fun r h1 c1 k1 => r = none ∧ (∃ f g, h1 = ev_hp (ev_sI I 5 f) (ev_sJ J 4 g) R T) ∧ c1 = 0 ∧ k1 = 0) := by
  refine ev_call (ec_note_r1 X I J R T t s f g _ _) (ec_at X (ev_hp (ev_sI I 5 f) (ev_sJ J 4 g) R T) 3 5 t f rfl (by decide)) ?_
  rintro _ _ _ _ ⟨rfl, rfl, rfl, rfl⟩
  generalize hq9 : ev_at 3 f t = q9
  refine ev_seg (ec_note_r2 X I J R T t s f g q9 _ _) ?_
  exact ec_note_a X I J R T t s _ _ _ _ _ _ (Nat.lt_succ_self _)
set_option maxRecDepth 100000 in
set_option maxHeartbeats 100000 in
theorem ec_nev_r_r1 (X : ez_X) (I : Nat → Nat → Int32) (J : Nat → Nat → Int64) (R : Nat → Nat) (T : List ez_C) (t : Int32) (s : Int32) (d : Int32) (i : Int32) (f : Nat → Int32) (g : Nat → Int64) (cz kz : Nat) : ∀ G : ez_F, fx_up X 5 G 92 18 [.ref 3, .int t, .int s, .int d, .int i] [] (ev_hp (ev_sI I 5 f) (ev_sJ J 4 g) R T) cz kz = bif decide ((I 1 3) ≤ i) then G 92 63 [.ref 3, .int t, .int s, .int d, .int i] [] (ev_hp (ev_sI I 5 f) (ev_sJ J 4 g) R T) cz kz else G 92 30 [.ref 3, .int t, .int s, .int d, .int i] [] (ev_hp (ev_sI I 5 f) (ev_sJ J 4 g) R T) cz kz := by
  intro G
  rfl
set_option maxRecDepth 100000 in
set_option maxHeartbeats 100000 in
theorem ec_nev_r_r2 (X : ez_X) (I : Nat → Nat → Int32) (J : Nat → Nat → Int64) (R : Nat → Nat) (T : List ez_C) (t : Int32) (s : Int32) (d : Int32) (i : Int32) (f : Nat → Int32) (g : Nat → Int64) (cz kz : Nat) : ∀ G : ez_F, fx_up X 2 G 92 63 [.ref 3, .int t, .int s, .int d, .int i] [] (ev_hp (ev_sI I 5 f) (ev_sJ J 4 g) R T) cz kz = G 92 3 [.ref 3, .int t, .int s, .int (d + (1 : Int32)), .int i] [] (ev_hp (ev_sI I 5 f) (ev_sJ J 4 g) R T) cz kz := by
  intro G
  rfl
set_option maxRecDepth 100000 in
set_option maxHeartbeats 100000 in
theorem ec_nev_r_r3 (X : ez_X) (I : Nat → Nat → Int32) (J : Nat → Nat → Int64) (R : Nat → Nat) (T : List ez_C) (t : Int32) (s : Int32) (d : Int32) (i : Int32) (f : Nat → Int32) (g : Nat → Int64) (cz kz : Nat) : ∀ G : ez_F, fx_up X 6 G 92 30 [.ref 3, .int t, .int s, .int d, .int i] [] (ev_hp (ev_sI I 5 f) (ev_sJ J 4 g) R T) cz kz = ev_C G 149 [.ref 1, .int s, .int i, .int d] (ev_hp (ev_sI I 5 f) (ev_sJ J 4 g) R T) fun r h1 c1 k1 => G 92 41 [.ref 3, .int t, .int s, .int d, .int i] (r.toList ++ []) h1 (cz + c1) (kz + k1) := by
  intro G
  rfl
set_option maxRecDepth 100000 in
set_option maxHeartbeats 100000 in
theorem ec_nev_r_r4 (X : ez_X) (I : Nat → Nat → Int32) (J : Nat → Nat → Int64) (R : Nat → Nat) (T : List ez_C) (t : Int32) (s : Int32) (d : Int32) (i : Int32) (f : Nat → Int32) (g : Nat → Int64) (v4 : Int64) (cz kz : Nat) : ∀ G : ez_F, fx_up X 5 G 92 41 [.ref 3, .int t, .int s, .int d, .int i] [.long v4] (ev_hp (ev_sI I 5 f) (ev_sJ J 4 g) R T) cz kz = bif decide ((lg_cmp v4 0) = 0) then G 92 57 [.ref 3, .int t, .int s, .int d, .int i, .long v4, ez_fill] [] (ev_hp (ev_sI I 5 f) (ev_sJ J 4 g) R T) cz kz else G 92 50 [.ref 3, .int t, .int s, .int d, .int i, .long v4, ez_fill] [] (ev_hp (ev_sI I 5 f) (ev_sJ J 4 g) R T) cz kz := by
  intro G
  rfl
set_option maxRecDepth 100000 in
set_option maxHeartbeats 100000 in
theorem ec_nev_r_r5 (X : ez_X) (I : Nat → Nat → Int32) (J : Nat → Nat → Int64) (R : Nat → Nat) (T : List ez_C) (t : Int32) (s : Int32) (d : Int32) (i : Int32) (f : Nat → Int32) (g : Nat → Int64) (v4 : Int64) (cz kz : Nat) : ∀ G : ez_F, fx_up X 2 G 92 57 [.ref 3, .int t, .int s, .int d, .int i, .long v4, ez_fill] [] (ev_hp (ev_sI I 5 f) (ev_sJ J 4 g) R T) cz kz = G 92 18 [.ref 3, .int t, .int s, .int d, .int (i + (1 : Int32)), .long v4, ez_fill] [] (ev_hp (ev_sI I 5 f) (ev_sJ J 4 g) R T) cz kz := by
  intro G
  rfl
set_option maxRecDepth 100000 in
set_option maxHeartbeats 100000 in
theorem ec_nev_r_r6 (X : ez_X) (I : Nat → Nat → Int32) (J : Nat → Nat → Int64) (R : Nat → Nat) (T : List ez_C) (t : Int32) (s : Int32) (d : Int32) (i : Int32) (f : Nat → Int32) (g : Nat → Int64) (v4 : Int64) (cz kz : Nat) : ∀ G : ez_F, fx_up X 4 G 92 50 [.ref 3, .int t, .int s, .int d, .int i, .long v4, ez_fill] [] (ev_hp (ev_sI I 5 f) (ev_sJ J 4 g) R T) cz kz = ev_C G 91 [.ref 3, .int t, .long v4] (ev_hp (ev_sI I 5 f) (ev_sJ J 4 g) R T) fun r h1 c1 k1 => G 92 57 [.ref 3, .int t, .int s, .int d, .int i, .long v4, ez_fill] (r.toList ++ []) h1 (cz + c1) (kz + k1) := by
  intro G
  rfl
set_option maxRecDepth 100000 in
set_option maxHeartbeats 100000 in
theorem ec_nev_r_r7 (X : ez_X) (I : Nat → Nat → Int32) (J : Nat → Nat → Int64) (R : Nat → Nat) (T : List ez_C) (t : Int32) (s : Int32) (d : Int32) (i : Int32) (f : Nat → Int32) (g : Nat → Int64) (v4 : Int64) (f5 : Nat → Int32) (g6 : Nat → Int64) (cz kz : Nat) : ∀ G : ez_F, fx_up X 2 G 92 57 [.ref 3, .int t, .int s, .int d, .int i, .long v4, ez_fill] [] (ev_hp (ev_sI I 5 f5) (ev_sJ J 4 g6) R T) cz kz = G 92 18 [.ref 3, .int t, .int s, .int d, .int (i + (1 : Int32)), .long v4, ez_fill] [] (ev_hp (ev_sI I 5 f5) (ev_sJ J 4 g6) R T) cz kz := by
  intro G
  rfl
theorem ec_nev_r (X : ez_X) (I : Nat → Nat → Int32) (J : Nat → Nat → Int64) (R : Nat → Nat) (T : List ez_C) (t : Int32) (s : Int32) (d : Int32) (kk : ∀ f g, ev_W X 92 3 [.ref 3, .int t, .int s, .int (d + 1)] [] (ev_hp (ev_sI I 5 f) (ev_sJ J 4 g) R T) 0 0 (fun r h1 c1 k1 => r = none ∧ (∃ f g, h1 = ev_hp (ev_sI I 5 f) (ev_sJ J 4 g) R T) ∧ c1 = 0 ∧ k1 = 0)) : ∀ (n : Nat) (i : Int32) (f : Nat → Int32) (g : Nat → Int64), ((I 1 3).toInt - i.toInt).toNat < n → ev_W X 92 18 [.ref 3, .int t, .int s, .int d, .int i] [] (ev_hp (ev_sI I 5 f) (ev_sJ J 4 g) R T) 0 0 (fun r h1 c1 k1 => r = none ∧ (∃ f g, h1 = ev_hp (ev_sI I 5 f) (ev_sJ J 4 g) R T) ∧ c1 = 0 ∧ k1 = 0) := by
  intro n
  induction n with
  | zero => intro i f g hm; exact absurd hm (Nat.not_lt_zero _)
  | succ n ih =>
    intro i f g hm
    refine ev_if (ec_nev_r_r1 X I J R T t s d i f g _ _) (fun b1 => ?_) (fun b1 => ?_)
    · replace b1 := of_decide_eq_true b1
      refine ev_seg (ec_nev_r_r2 X I J R T t s d i f g _ _) ?_
      refine ev_cutl (by rfl) ?_
      exact kk _ _
    · replace b1 := of_decide_eq_false b1
      refine ev_call (ec_nev_r_r3 X I J R T t s d i f g _ _) (ec_placed X (ev_sI I 5 f) (ev_sJ J 4 g) R T s i d) ?_
      rintro _ _ _ _ ⟨⟨v4, rfl⟩, rfl, rfl, rfl⟩
      refine ev_if (ec_nev_r_r4 X I J R T t s d i f g v4 _ _) (fun b2 => ?_) (fun b2 => ?_)
      · replace b2 := of_decide_eq_true b2
        refine ev_seg (ec_nev_r_r5 X I J R T t s d i f g v4 _ _) ?_
        refine ev_cutl (by rfl) ?_
        exact ih _ _ _ (ev_up hm b1)
      · replace b2 := of_decide_eq_false b2
        refine ev_call (ec_nev_r_r6 X I J R T t s d i f g v4 _ _) (ec_note X I J R T t v4 f g) ?_
        rintro _ _ _ _ ⟨rfl, ⟨f5, g6, rfl⟩, rfl, rfl⟩
        refine ev_seg (ec_nev_r_r7 X I J R T t s d i f g v4 f5 g6 _ _) ?_
        refine ev_cutl (by rfl) ?_
        exact ih _ _ _ (ev_up hm b1)
set_option maxRecDepth 100000 in
set_option maxHeartbeats 100000 in
theorem ec_nev_d_r1 (X : ez_X) (I : Nat → Nat → Int32) (J : Nat → Nat → Int64) (R : Nat → Nat) (T : List ez_C) (t : Int32) (s : Int32) (i : Int32) (f : Nat → Int32) (g : Nat → Int64) (cz kz : Nat) : ∀ G : ez_F, fx_up X 5 G 92 3 [.ref 3, .int t, .int s, .int i] [] (ev_hp (ev_sI I 5 f) (ev_sJ J 4 g) R T) cz kz = bif decide ((I 1 4) ≤ i) then G 92 69 [.ref 3, .int t, .int s, .int i] [] (ev_hp (ev_sI I 5 f) (ev_sJ J 4 g) R T) cz kz else G 92 14 [.ref 3, .int t, .int s, .int i] [] (ev_hp (ev_sI I 5 f) (ev_sJ J 4 g) R T) cz kz := by
  intro G
  rfl
set_option maxRecDepth 100000 in
set_option maxHeartbeats 100000 in
theorem ec_nev_d_r2 (X : ez_X) (I : Nat → Nat → Int32) (J : Nat → Nat → Int64) (R : Nat → Nat) (T : List ez_C) (t : Int32) (s : Int32) (i : Int32) (f : Nat → Int32) (g : Nat → Int64) (cz kz : Nat) : ∀ G : ez_F, fx_up X 1 G 92 69 [.ref 3, .int t, .int s, .int i] [] (ev_hp (ev_sI I 5 f) (ev_sJ J 4 g) R T) cz kz = some (none, (ev_hp (ev_sI I 5 f) (ev_sJ J 4 g) R T), cz, kz) := by
  intro G
  rfl
set_option maxRecDepth 100000 in
set_option maxHeartbeats 100000 in
theorem ec_nev_d_r3 (X : ez_X) (I : Nat → Nat → Int32) (J : Nat → Nat → Int64) (R : Nat → Nat) (T : List ez_C) (t : Int32) (s : Int32) (i : Int32) (f : Nat → Int32) (g : Nat → Int64) (cz kz : Nat) : ∀ G : ez_F, fx_up X 2 G 92 14 [.ref 3, .int t, .int s, .int i] [] (ev_hp (ev_sI I 5 f) (ev_sJ J 4 g) R T) cz kz = G 92 18 [.ref 3, .int t, .int s, .int i, .int (-3)] [] (ev_hp (ev_sI I 5 f) (ev_sJ J 4 g) R T) cz kz := by
  intro G
  rfl
theorem ec_nev_d (X : ez_X) (I : Nat → Nat → Int32) (J : Nat → Nat → Int64) (R : Nat → Nat) (T : List ez_C) (t : Int32) (s : Int32)  : ∀ (n : Nat) (i : Int32) (f : Nat → Int32) (g : Nat → Int64), ((I 1 4).toInt - i.toInt).toNat < n → ev_W X 92 3 [.ref 3, .int t, .int s, .int i] [] (ev_hp (ev_sI I 5 f) (ev_sJ J 4 g) R T) 0 0 (fun r h1 c1 k1 => r = none ∧ (∃ f g, h1 = ev_hp (ev_sI I 5 f) (ev_sJ J 4 g) R T) ∧ c1 = 0 ∧ k1 = 0) := by
  intro n
  induction n with
  | zero => intro i f g hm; exact absurd hm (Nat.not_lt_zero _)
  | succ n ih =>
    intro i f g hm
    refine ev_if (ec_nev_d_r1 X I J R T t s i f g _ _) (fun b1 => ?_) (fun b1 => ?_)
    · replace b1 := of_decide_eq_true b1
      refine ev_ret (ec_nev_d_r2 X I J R T t s i f g _ _) ?_
      exact ⟨rfl, ⟨_, _, rfl⟩, rfl, rfl⟩
    · replace b1 := of_decide_eq_false b1
      refine ev_seg (ec_nev_d_r3 X I J R T t s i f g _ _) ?_
      exact ec_nev_r X I J R T t s i (fun f g => ih _ f g (ev_up hm b1)) _ _ _ _ (Nat.lt_succ_self _)
set_option maxRecDepth 100000 in
set_option maxHeartbeats 100000 in
theorem ec_nev_r1 (X : ez_X) (I : Nat → Nat → Int32) (J : Nat → Nat → Int64) (R : Nat → Nat) (T : List ez_C) (t : Int32) (s : Int32) (f : Nat → Int32) (g : Nat → Int64) (cz kz : Nat) : ∀ G : ez_F, fx_up X 2 G 92 0 [.ref 3, .int t, .int s] [] (ev_hp (ev_sI I 5 f) (ev_sJ J 4 g) R T) cz kz = G 92 3 [.ref 3, .int t, .int s, .int (-3)] [] (ev_hp (ev_sI I 5 f) (ev_sJ J 4 g) R T) cz kz := by
  intro G
  rfl
theorem ec_nev (X : ez_X) (I : Nat → Nat → Int32) (J : Nat → Nat → Int64) (R : Nat → Nat) (T : List ez_C) (t : Int32) (s : Int32) (f : Nat → Int32) (g : Nat → Int64)  : ev_W X 92 0 (ez_lay [.ref 3, .int t, .int s]) [] (ev_hp (ev_sI I 5 f) (ev_sJ J 4 g) R T) 0 0 (fun r h1 c1 k1 => r = none ∧ (∃ f g, h1 = ev_hp (ev_sI I 5 f) (ev_sJ J 4 g) R T) ∧ c1 = 0 ∧ k1 = 0) := by
  refine ev_seg (ec_nev_r1 X I J R T t s f g _ _) ?_
  exact ec_nev_d X I J R T t s _ _ _ _ (Nat.lt_succ_self _)
set_option maxRecDepth 100000 in
set_option maxHeartbeats 100000 in
theorem ec_qt_l_r1 (X : ez_X) (h : ez_H) (s : Int32) (t : Int32) (i : Int32) (cz kz : Nat) : ∀ G : ez_F, fx_up X 3 G 93 4 [.int s, .int t, .int i] [] h cz kz = bif decide (16 ≤ i) then G 93 38 [.int s, .int t, .int i] [] h cz kz else G 93 10 [.int s, .int t, .int i] [] h cz kz := by
  intro G
  rfl
set_option maxRecDepth 100000 in
set_option maxHeartbeats 100000 in
theorem ec_qt_l_r2 (X : ez_X) (h : ez_H) (s : Int32) (t : Int32) (i : Int32) (cz kz : Nat) : ∀ G : ez_F, fx_up X 2 G 93 38 [.int s, .int t, .int i] [] h cz kz = some (some (.int t), h, cz, kz) := by
  intro G
  rfl
set_option maxRecDepth 100000 in
set_option maxHeartbeats 100000 in
theorem ec_qt_l_r3 (X : ez_X) (h : ez_H) (s : Int32) (t : Int32) (i : Int32) (cz kz : Nat) : ∀ G : ez_F, fx_up X 24 G 93 10 [.int s, .int t, .int i] [] h cz kz = G 93 4 [.int s, .int (t ||| (((s >>> (i &&& 31)) &&& (1 : Int32)) <<< (((((4 : Int32) * (i &&& (3 : Int32))) + (3 : Int32)) - (i >>> 2)) &&& 31))), .int (i + (1 : Int32)), .int ((((4 : Int32) * (i &&& (3 : Int32))) + (3 : Int32)) - (i >>> 2))] [] h cz kz := by
  intro G
  rfl
theorem ec_qt_l (X : ez_X) (h : ez_H) (s : Int32)  : ∀ (n : Nat) (t : Int32) (i : Int32), ((16 : Int32).toInt - i.toInt).toNat < n → ev_W X 93 4 [.int s, .int t, .int i] [] h 0 0 (ev_anyI h) := by
  intro n
  induction n with
  | zero => intro t i hm; exact absurd hm (Nat.not_lt_zero _)
  | succ n ih =>
    intro t i hm
    refine ev_if (ec_qt_l_r1 X h s t i _ _) (fun b1 => ?_) (fun b1 => ?_)
    · replace b1 := of_decide_eq_true b1
      refine ev_ret (ec_qt_l_r2 X h s t i _ _) ?_
      exact ⟨⟨_, rfl⟩, rfl, rfl, rfl⟩
    · replace b1 := of_decide_eq_false b1
      refine ev_seg (ec_qt_l_r3 X h s t i _ _) ?_
      refine ev_cutl (by rfl) ?_
      exact ih _ _ (ev_up hm b1)
set_option maxRecDepth 100000 in
set_option maxHeartbeats 100000 in
theorem ec_qt_r1 (X : ez_X) (h : ez_H) (s : Int32) (cz kz : Nat) : ∀ G : ez_F, fx_up X 4 G 93 0 [.int s] [] h cz kz = G 93 4 [.int s, .int 0, .int 0] [] h cz kz := by
  intro G
  rfl
theorem ec_qt (X : ez_X) (h : ez_H) (s : Int32)  : ev_W X 93 0 (ez_lay [.int s]) [] h 0 0 (ev_anyI h) := by
  refine ev_seg (ec_qt_r1 X h s _ _) ?_
  exact ec_qt_l X h s _ _ _ (Nat.lt_succ_self _)
set_option maxRecDepth 100000 in
set_option maxHeartbeats 100000 in
theorem ec_mir_l_r1 (X : ez_X) (h : ez_H) (s : Int32) (t : Int32) (i : Int32) (cz kz : Nat) : ∀ G : ez_F, fx_up X 3 G 90 4 [.int s, .int t, .int i] [] h cz kz = bif decide (16 ≤ i) then G 90 28 [.int s, .int t, .int i] [] h cz kz else G 90 10 [.int s, .int t, .int i] [] h cz kz := by
  intro G
  rfl
set_option maxRecDepth 100000 in
set_option maxHeartbeats 100000 in
theorem ec_mir_l_r2 (X : ez_X) (h : ez_H) (s : Int32) (t : Int32) (i : Int32) (cz kz : Nat) : ∀ G : ez_F, fx_up X 2 G 90 28 [.int s, .int t, .int i] [] h cz kz = some (some (.int t), h, cz, kz) := by
  intro G
  rfl
set_option maxRecDepth 100000 in
set_option maxHeartbeats 100000 in
theorem ec_mir_l_r3 (X : ez_X) (h : ez_H) (s : Int32) (t : Int32) (i : Int32) (cz kz : Nat) : ∀ G : ez_F, fx_up X 14 G 90 10 [.int s, .int t, .int i] [] h cz kz = G 90 4 [.int s, .int (t ||| (((s >>> (i &&& 31)) &&& (1 : Int32)) <<< ((i ^^^ (3 : Int32)) &&& 31))), .int (i + (1 : Int32))] [] h cz kz := by
  intro G
  rfl
theorem ec_mir_l (X : ez_X) (h : ez_H) (s : Int32)  : ∀ (n : Nat) (t : Int32) (i : Int32), ((16 : Int32).toInt - i.toInt).toNat < n → ev_W X 90 4 [.int s, .int t, .int i] [] h 0 0 (ev_anyI h) := by
  intro n
  induction n with
  | zero => intro t i hm; exact absurd hm (Nat.not_lt_zero _)
  | succ n ih =>
    intro t i hm
    refine ev_if (ec_mir_l_r1 X h s t i _ _) (fun b1 => ?_) (fun b1 => ?_)
    · replace b1 := of_decide_eq_true b1
      refine ev_ret (ec_mir_l_r2 X h s t i _ _) ?_
      exact ⟨⟨_, rfl⟩, rfl, rfl, rfl⟩
    · replace b1 := of_decide_eq_false b1
      refine ev_seg (ec_mir_l_r3 X h s t i _ _) ?_
      exact ih _ _ (ev_up hm b1)
set_option maxRecDepth 100000 in
set_option maxHeartbeats 100000 in
theorem ec_mir_r1 (X : ez_X) (h : ez_H) (s : Int32) (cz kz : Nat) : ∀ G : ez_F, fx_up X 4 G 90 0 [.int s] [] h cz kz = G 90 4 [.int s, .int 0, .int 0] [] h cz kz := by
  intro G
  rfl
theorem ec_mir (X : ez_X) (h : ez_H) (s : Int32)  : ev_W X 90 0 (ez_lay [.int s]) [] h 0 0 (ev_anyI h) := by
  refine ev_seg (ec_mir_r1 X h s _ _) ?_
  exact ec_mir_l X h s _ _ _ (Nat.lt_succ_self _)
set_option maxRecDepth 100000 in
set_option maxHeartbeats 100000 in
theorem ec_build_q_r1 (X : ez_X) (I : Nat → Nat → Int32) (J : Nat → Nat → Int64) (R : Nat → Nat) (T : List ez_C) (s0 : Int32) (u : Int32) (w : Int32) (d : Int32) (s : Int32) (i : Int32) (f : Nat → Int32) (g : Nat → Int64) (cz kz : Nat) : ∀ G : ez_F, fx_up X 3 G 85 38 [.ref 3, .int s0, .int u, .int w, .int s, .int d, .int i] [] (ev_hp (ev_sI I 5 f) (ev_sJ J 4 g) R T) cz kz = bif decide (¬ u = 0) then G 85 48 [.ref 3, .int s0, .int u, .int w, .int s, .int d, .int i] [.int i] (ev_hp (ev_sI I 5 f) (ev_sJ J 4 g) R T) cz kz else G 85 44 [.ref 3, .int s0, .int u, .int w, .int s, .int d, .int i] [.int i] (ev_hp (ev_sI I 5 f) (ev_sJ J 4 g) R T) cz kz := by
  intro G
  rfl
set_option maxRecDepth 100000 in
set_option maxHeartbeats 100000 in
theorem ec_build_q_r2 (X : ez_X) (I : Nat → Nat → Int32) (J : Nat → Nat → Int64) (R : Nat → Nat) (T : List ez_C) (s0 : Int32) (u : Int32) (w : Int32) (d : Int32) (s : Int32) (i : Int32) (f : Nat → Int32) (g : Nat → Int64) (cz kz : Nat) : ∀ G : ez_F, fx_up X 2 G 85 48 [.ref 3, .int s0, .int u, .int w, .int s, .int d, .int i] [.int i] (ev_hp (ev_sI I 5 f) (ev_sJ J 4 g) R T) cz kz = bif decide (4 ≤ i) then G 85 72 [.ref 3, .int s0, .int u, .int w, .int s, .int d, .int i] [] (ev_hp (ev_sI I 5 f) (ev_sJ J 4 g) R T) cz kz else G 85 52 [.ref 3, .int s0, .int u, .int w, .int s, .int d, .int i] [] (ev_hp (ev_sI I 5 f) (ev_sJ J 4 g) R T) cz kz := by
  intro G
  rfl
set_option maxRecDepth 100000 in
set_option maxHeartbeats 100000 in
theorem ec_build_q_r3 (X : ez_X) (I : Nat → Nat → Int32) (J : Nat → Nat → Int64) (R : Nat → Nat) (T : List ez_C) (s0 : Int32) (u : Int32) (w : Int32) (d : Int32) (s : Int32) (i : Int32) (f : Nat → Int32) (g : Nat → Int64) (cz kz : Nat) : ∀ G : ez_F, fx_up X 2 G 85 72 [.ref 3, .int s0, .int u, .int w, .int s, .int d, .int i] [] (ev_hp (ev_sI I 5 f) (ev_sJ J 4 g) R T) cz kz = ev_C G 90 [.int s] (ev_hp (ev_sI I 5 f) (ev_sJ J 4 g) R T) fun r h1 c1 k1 => G 85 77 [.ref 3, .int s0, .int u, .int w, .int s, .int d, .int i] (r.toList ++ []) h1 (cz + c1) (kz + k1) := by
  intro G
  rfl
set_option maxRecDepth 100000 in
set_option maxHeartbeats 100000 in
theorem ec_build_q_r4 (X : ez_X) (I : Nat → Nat → Int32) (J : Nat → Nat → Int64) (R : Nat → Nat) (T : List ez_C) (s0 : Int32) (u : Int32) (w : Int32) (d : Int32) (s : Int32) (i : Int32) (f : Nat → Int32) (g : Nat → Int64) (v7 : Int32) (cz kz : Nat) : ∀ G : ez_F, fx_up X 3 G 85 77 [.ref 3, .int s0, .int u, .int w, .int s, .int d, .int i] [.int v7] (ev_hp (ev_sI I 5 f) (ev_sJ J 4 g) R T) cz kz = G 85 20 [.ref 3, .int s0, .int u, .int w, .int v7, .int (d + (1 : Int32)), .int i] [] (ev_hp (ev_sI I 5 f) (ev_sJ J 4 g) R T) cz kz := by
  intro G
  rfl
set_option maxRecDepth 100000 in
set_option maxHeartbeats 100000 in
theorem ec_build_q_r5 (X : ez_X) (I : Nat → Nat → Int32) (J : Nat → Nat → Int64) (R : Nat → Nat) (T : List ez_C) (s0 : Int32) (u : Int32) (w : Int32) (d : Int32) (s : Int32) (i : Int32) (f : Nat → Int32) (g : Nat → Int64) (cz kz : Nat) : ∀ G : ez_F, fx_up X 4 G 85 52 [.ref 3, .int s0, .int u, .int w, .int s, .int d, .int i] [] (ev_hp (ev_sI I 5 f) (ev_sJ J 4 g) R T) cz kz = ev_C G 92 [.ref 3, .int w, .int s] (ev_hp (ev_sI I 5 f) (ev_sJ J 4 g) R T) fun r h1 c1 k1 => G 85 59 [.ref 3, .int s0, .int u, .int w, .int s, .int d, .int i] (r.toList ++ []) h1 (cz + c1) (kz + k1) := by
  intro G
  rfl
set_option maxRecDepth 100000 in
set_option maxHeartbeats 100000 in
theorem ec_build_q_r6 (X : ez_X) (I : Nat → Nat → Int32) (J : Nat → Nat → Int64) (R : Nat → Nat) (T : List ez_C) (s0 : Int32) (u : Int32) (w : Int32) (d : Int32) (s : Int32) (i : Int32) (f : Nat → Int32) (g : Nat → Int64) (f8 : Nat → Int32) (g9 : Nat → Int64) (cz kz : Nat) : ∀ G : ez_F, fx_up X 2 G 85 59 [.ref 3, .int s0, .int u, .int w, .int s, .int d, .int i] [] (ev_hp (ev_sI I 5 f8) (ev_sJ J 4 g9) R T) cz kz = ev_C G 93 [.int s] (ev_hp (ev_sI I 5 f8) (ev_sJ J 4 g9) R T) fun r h1 c1 k1 => G 85 64 [.ref 3, .int s0, .int u, .int w, .int s, .int d, .int i] (r.toList ++ []) h1 (cz + c1) (kz + k1) := by
  intro G
  rfl
set_option maxRecDepth 100000 in
set_option maxHeartbeats 100000 in
theorem ec_build_q_r7 (X : ez_X) (I : Nat → Nat → Int32) (J : Nat → Nat → Int64) (R : Nat → Nat) (T : List ez_C) (s0 : Int32) (u : Int32) (w : Int32) (d : Int32) (s : Int32) (i : Int32) (f : Nat → Int32) (g : Nat → Int64) (f8 : Nat → Int32) (g9 : Nat → Int64) (v10 : Int32) (cz kz : Nat) : ∀ G : ez_F, fx_up X 3 G 85 64 [.ref 3, .int s0, .int u, .int w, .int s, .int d, .int i] [.int v10] (ev_hp (ev_sI I 5 f8) (ev_sJ J 4 g9) R T) cz kz = G 85 38 [.ref 3, .int s0, .int u, .int w, .int v10, .int d, .int (i + (1 : Int32))] [] (ev_hp (ev_sI I 5 f8) (ev_sJ J 4 g9) R T) cz kz := by
  intro G
  rfl
set_option maxRecDepth 100000 in
set_option maxHeartbeats 100000 in
theorem ec_build_q_r8 (X : ez_X) (I : Nat → Nat → Int32) (J : Nat → Nat → Int64) (R : Nat → Nat) (T : List ez_C) (s0 : Int32) (u : Int32) (w : Int32) (d : Int32) (s : Int32) (i : Int32) (f : Nat → Int32) (g : Nat → Int64) (cz kz : Nat) : ∀ G : ez_F, fx_up X 3 G 85 44 [.ref 3, .int s0, .int u, .int w, .int s, .int d, .int i] [.int i] (ev_hp (ev_sI I 5 f) (ev_sJ J 4 g) R T) cz kz = bif decide (1 ≤ i) then G 85 72 [.ref 3, .int s0, .int u, .int w, .int s, .int d, .int i] [] (ev_hp (ev_sI I 5 f) (ev_sJ J 4 g) R T) cz kz else G 85 52 [.ref 3, .int s0, .int u, .int w, .int s, .int d, .int i] [] (ev_hp (ev_sI I 5 f) (ev_sJ J 4 g) R T) cz kz := by
  intro G
  rfl
set_option maxRecDepth 100000 in
set_option maxHeartbeats 100000 in
theorem ec_build_q_r9 (X : ez_X) (I : Nat → Nat → Int32) (J : Nat → Nat → Int64) (R : Nat → Nat) (T : List ez_C) (s0 : Int32) (u : Int32) (w : Int32) (d : Int32) (s : Int32) (i : Int32) (f : Nat → Int32) (g : Nat → Int64) (cz kz : Nat) : ∀ G : ez_F, fx_up X 2 G 85 72 [.ref 3, .int s0, .int u, .int w, .int s, .int d, .int i] [] (ev_hp (ev_sI I 5 f) (ev_sJ J 4 g) R T) cz kz = ev_C G 90 [.int s] (ev_hp (ev_sI I 5 f) (ev_sJ J 4 g) R T) fun r h1 c1 k1 => G 85 77 [.ref 3, .int s0, .int u, .int w, .int s, .int d, .int i] (r.toList ++ []) h1 (cz + c1) (kz + k1) := by
  intro G
  rfl
set_option maxRecDepth 100000 in
set_option maxHeartbeats 100000 in
theorem ec_build_q_r10 (X : ez_X) (I : Nat → Nat → Int32) (J : Nat → Nat → Int64) (R : Nat → Nat) (T : List ez_C) (s0 : Int32) (u : Int32) (w : Int32) (d : Int32) (s : Int32) (i : Int32) (f : Nat → Int32) (g : Nat → Int64) (v11 : Int32) (cz kz : Nat) : ∀ G : ez_F, fx_up X 3 G 85 77 [.ref 3, .int s0, .int u, .int w, .int s, .int d, .int i] [.int v11] (ev_hp (ev_sI I 5 f) (ev_sJ J 4 g) R T) cz kz = G 85 20 [.ref 3, .int s0, .int u, .int w, .int v11, .int (d + (1 : Int32)), .int i] [] (ev_hp (ev_sI I 5 f) (ev_sJ J 4 g) R T) cz kz := by
  intro G
  rfl
set_option maxRecDepth 100000 in
set_option maxHeartbeats 100000 in
theorem ec_build_q_r11 (X : ez_X) (I : Nat → Nat → Int32) (J : Nat → Nat → Int64) (R : Nat → Nat) (T : List ez_C) (s0 : Int32) (u : Int32) (w : Int32) (d : Int32) (s : Int32) (i : Int32) (f : Nat → Int32) (g : Nat → Int64) (cz kz : Nat) : ∀ G : ez_F, fx_up X 4 G 85 52 [.ref 3, .int s0, .int u, .int w, .int s, .int d, .int i] [] (ev_hp (ev_sI I 5 f) (ev_sJ J 4 g) R T) cz kz = ev_C G 92 [.ref 3, .int w, .int s] (ev_hp (ev_sI I 5 f) (ev_sJ J 4 g) R T) fun r h1 c1 k1 => G 85 59 [.ref 3, .int s0, .int u, .int w, .int s, .int d, .int i] (r.toList ++ []) h1 (cz + c1) (kz + k1) := by
  intro G
  rfl
set_option maxRecDepth 100000 in
set_option maxHeartbeats 100000 in
theorem ec_build_q_r12 (X : ez_X) (I : Nat → Nat → Int32) (J : Nat → Nat → Int64) (R : Nat → Nat) (T : List ez_C) (s0 : Int32) (u : Int32) (w : Int32) (d : Int32) (s : Int32) (i : Int32) (f : Nat → Int32) (g : Nat → Int64) (f12 : Nat → Int32) (g13 : Nat → Int64) (cz kz : Nat) : ∀ G : ez_F, fx_up X 2 G 85 59 [.ref 3, .int s0, .int u, .int w, .int s, .int d, .int i] [] (ev_hp (ev_sI I 5 f12) (ev_sJ J 4 g13) R T) cz kz = ev_C G 93 [.int s] (ev_hp (ev_sI I 5 f12) (ev_sJ J 4 g13) R T) fun r h1 c1 k1 => G 85 64 [.ref 3, .int s0, .int u, .int w, .int s, .int d, .int i] (r.toList ++ []) h1 (cz + c1) (kz + k1) := by
  intro G
  rfl
set_option maxRecDepth 100000 in
set_option maxHeartbeats 100000 in
theorem ec_build_q_r13 (X : ez_X) (I : Nat → Nat → Int32) (J : Nat → Nat → Int64) (R : Nat → Nat) (T : List ez_C) (s0 : Int32) (u : Int32) (w : Int32) (d : Int32) (s : Int32) (i : Int32) (f : Nat → Int32) (g : Nat → Int64) (f12 : Nat → Int32) (g13 : Nat → Int64) (v14 : Int32) (cz kz : Nat) : ∀ G : ez_F, fx_up X 3 G 85 64 [.ref 3, .int s0, .int u, .int w, .int s, .int d, .int i] [.int v14] (ev_hp (ev_sI I 5 f12) (ev_sJ J 4 g13) R T) cz kz = G 85 38 [.ref 3, .int s0, .int u, .int w, .int v14, .int d, .int (i + (1 : Int32))] [] (ev_hp (ev_sI I 5 f12) (ev_sJ J 4 g13) R T) cz kz := by
  intro G
  rfl
theorem ec_build_q (X : ez_X) (I : Nat → Nat → Int32) (J : Nat → Nat → Int64) (R : Nat → Nat) (T : List ez_C) (s0 : Int32) (u : Int32) (w : Int32) (d : Int32) (kk : ∀ s f g, ev_W X 85 20 [.ref 3, .int s0, .int u, .int w, .int s, .int (d + 1)] [] (ev_hp (ev_sI I 5 f) (ev_sJ J 4 g) R T) 0 0 (fun r h1 c1 k1 => r = some (.int w) ∧ (∃ f g, h1 = ev_hp (ev_sI (ev_sI I 3 (upd (I 3) 3 (w + 1))) 5 f) (ev_sJ J 4 g) R T) ∧ c1 = 0 ∧ k1 = 0)) : ∀ (n : Nat) (s : Int32) (i : Int32) (f : Nat → Int32) (g : Nat → Int64), ((4 : Int32).toInt - i.toInt).toNat < n → ev_W X 85 38 [.ref 3, .int s0, .int u, .int w, .int s, .int d, .int i] [] (ev_hp (ev_sI I 5 f) (ev_sJ J 4 g) R T) 0 0 (fun r h1 c1 k1 => r = some (.int w) ∧ (∃ f g, h1 = ev_hp (ev_sI (ev_sI I 3 (upd (I 3) 3 (w + 1))) 5 f) (ev_sJ J 4 g) R T) ∧ c1 = 0 ∧ k1 = 0) := by
  intro n
  induction n with
  | zero => intro s i f g hm; exact absurd hm (Nat.not_lt_zero _)
  | succ n ih =>
    intro s i f g hm
    refine ev_if (ec_build_q_r1 X I J R T s0 u w d s i f g _ _) (fun b1 => ?_) (fun b1 => ?_)
    · replace b1 := of_decide_eq_true b1
      refine ev_if (ec_build_q_r2 X I J R T s0 u w d s i f g _ _) (fun b2 => ?_) (fun b2 => ?_)
      · replace b2 := of_decide_eq_true b2
        refine ev_call (ec_build_q_r3 X I J R T s0 u w d s i f g _ _) (ec_mir X (ev_hp (ev_sI I 5 f) (ev_sJ J 4 g) R T) s) ?_
        rintro _ _ _ _ ⟨⟨v7, rfl⟩, rfl, rfl, rfl⟩
        refine ev_seg (ec_build_q_r4 X I J R T s0 u w d s i f g v7 _ _) ?_
        refine ev_cutl (by rfl) ?_
        exact kk _ _ _
      · replace b2 := of_decide_eq_false b2
        refine ev_call (ec_build_q_r5 X I J R T s0 u w d s i f g _ _) (ec_nev X I J R T w s f g) ?_
        rintro _ _ _ _ ⟨rfl, ⟨f8, g9, rfl⟩, rfl, rfl⟩
        refine ev_call (ec_build_q_r6 X I J R T s0 u w d s i f g f8 g9 _ _) (ec_qt X (ev_hp (ev_sI I 5 f8) (ev_sJ J 4 g9) R T) s) ?_
        rintro _ _ _ _ ⟨⟨v10, rfl⟩, rfl, rfl, rfl⟩
        refine ev_seg (ec_build_q_r7 X I J R T s0 u w d s i f g f8 g9 v10 _ _) ?_
        exact ih _ _ _ _ (by first | exact ev_up hm b2 | exact ev_up hm (fun z => b2 (Int32.le_trans (by decide) z)))
    · replace b1 := of_decide_eq_false b1
      refine ev_if (ec_build_q_r8 X I J R T s0 u w d s i f g _ _) (fun b3 => ?_) (fun b3 => ?_)
      · replace b3 := of_decide_eq_true b3
        refine ev_call (ec_build_q_r9 X I J R T s0 u w d s i f g _ _) (ec_mir X (ev_hp (ev_sI I 5 f) (ev_sJ J 4 g) R T) s) ?_
        rintro _ _ _ _ ⟨⟨v11, rfl⟩, rfl, rfl, rfl⟩
        refine ev_seg (ec_build_q_r10 X I J R T s0 u w d s i f g v11 _ _) ?_
        refine ev_cutl (by rfl) ?_
        exact kk _ _ _
      · replace b3 := of_decide_eq_false b3
        refine ev_call (ec_build_q_r11 X I J R T s0 u w d s i f g _ _) (ec_nev X I J R T w s f g) ?_
        rintro _ _ _ _ ⟨rfl, ⟨f12, g13, rfl⟩, rfl, rfl⟩
        refine ev_call (ec_build_q_r12 X I J R T s0 u w d s i f g f12 g13 _ _) (ec_qt X (ev_hp (ev_sI I 5 f12) (ev_sJ J 4 g13) R T) s) ?_
        rintro _ _ _ _ ⟨⟨v14, rfl⟩, rfl, rfl, rfl⟩
        refine ev_seg (ec_build_q_r13 X I J R T s0 u w d s i f g f12 g13 v14 _ _) ?_
        exact ih _ _ _ _ (by first | exact ev_up hm b3 | exact ev_up hm (fun z => b3 (Int32.le_trans (by decide) z)))
set_option maxRecDepth 100000 in
set_option maxHeartbeats 100000 in
theorem ec_build_s_r1 (X : ez_X) (I : Nat → Nat → Int32) (J : Nat → Nat → Int64) (R : Nat → Nat) (T : List ez_C) (s0 : Int32) (u : Int32) (w : Int32) (s : Int32) (i : Int32) (f : Nat → Int32) (g : Nat → Int64) (cz kz : Nat) : ∀ G : ez_F, fx_up X 4 G 85 20 [.ref 3, .int s0, .int u, .int w, .int s, .int i] [] (ev_hp (ev_sI I 5 f) (ev_sJ J 4 g) R T) cz kz = bif decide (¬ u = 2) then G 85 31 [.ref 3, .int s0, .int u, .int w, .int s, .int i] [.int i] (ev_hp (ev_sI I 5 f) (ev_sJ J 4 g) R T) cz kz else G 85 27 [.ref 3, .int s0, .int u, .int w, .int s, .int i] [.int i] (ev_hp (ev_sI I 5 f) (ev_sJ J 4 g) R T) cz kz := by
  intro G
  rfl
set_option maxRecDepth 100000 in
set_option maxHeartbeats 100000 in
theorem ec_build_s_r2 (X : ez_X) (I : Nat → Nat → Int32) (J : Nat → Nat → Int64) (R : Nat → Nat) (T : List ez_C) (s0 : Int32) (u : Int32) (w : Int32) (s : Int32) (i : Int32) (f : Nat → Int32) (g : Nat → Int64) (cz kz : Nat) : ∀ G : ez_F, fx_up X 2 G 85 31 [.ref 3, .int s0, .int u, .int w, .int s, .int i] [.int i] (ev_hp (ev_sI I 5 f) (ev_sJ J 4 g) R T) cz kz = bif decide (1 ≤ i) then G 85 85 [.ref 3, .int s0, .int u, .int w, .int s, .int i] [] (ev_hp (ev_sI I 5 f) (ev_sJ J 4 g) R T) cz kz else G 85 35 [.ref 3, .int s0, .int u, .int w, .int s, .int i] [] (ev_hp (ev_sI I 5 f) (ev_sJ J 4 g) R T) cz kz := by
  intro G
  rfl
set_option maxRecDepth 100000 in
set_option maxHeartbeats 100000 in
theorem ec_build_s_r3 (X : ez_X) (I : Nat → Nat → Int32) (J : Nat → Nat → Int64) (R : Nat → Nat) (T : List ez_C) (s0 : Int32) (u : Int32) (w : Int32) (s : Int32) (i : Int32) (f : Nat → Int32) (g : Nat → Int64) (cz kz : Nat) : ∀ G : ez_F, fx_up X 7 G 85 85 [.ref 3, .int s0, .int u, .int w, .int s, .int i] [] (ev_hp (ev_sI I 5 f) (ev_sJ J 4 g) R T) cz kz = some (some (.int w), (ev_hp (ev_sI (ev_sI I 3 (upd (I 3) 3 (w + (1 : Int32)))) 5 f) (ev_sJ J 4 g) R T), cz, kz) := by
  intro G
  rfl
set_option maxRecDepth 100000 in
set_option maxHeartbeats 100000 in
theorem ec_build_s_r4 (X : ez_X) (I : Nat → Nat → Int32) (J : Nat → Nat → Int64) (R : Nat → Nat) (T : List ez_C) (s0 : Int32) (u : Int32) (w : Int32) (s : Int32) (i : Int32) (f : Nat → Int32) (g : Nat → Int64) (cz kz : Nat) : ∀ G : ez_F, fx_up X 2 G 85 35 [.ref 3, .int s0, .int u, .int w, .int s, .int i] [] (ev_hp (ev_sI I 5 f) (ev_sJ J 4 g) R T) cz kz = G 85 38 [.ref 3, .int s0, .int u, .int w, .int s, .int i, .int 0] [] (ev_hp (ev_sI I 5 f) (ev_sJ J 4 g) R T) cz kz := by
  intro G
  rfl
set_option maxRecDepth 100000 in
set_option maxHeartbeats 100000 in
theorem ec_build_s_r5 (X : ez_X) (I : Nat → Nat → Int32) (J : Nat → Nat → Int64) (R : Nat → Nat) (T : List ez_C) (s0 : Int32) (u : Int32) (w : Int32) (s : Int32) (i : Int32) (f : Nat → Int32) (g : Nat → Int64) (cz kz : Nat) : ∀ G : ez_F, fx_up X 3 G 85 27 [.ref 3, .int s0, .int u, .int w, .int s, .int i] [.int i] (ev_hp (ev_sI I 5 f) (ev_sJ J 4 g) R T) cz kz = bif decide (2 ≤ i) then G 85 85 [.ref 3, .int s0, .int u, .int w, .int s, .int i] [] (ev_hp (ev_sI I 5 f) (ev_sJ J 4 g) R T) cz kz else G 85 35 [.ref 3, .int s0, .int u, .int w, .int s, .int i] [] (ev_hp (ev_sI I 5 f) (ev_sJ J 4 g) R T) cz kz := by
  intro G
  rfl
set_option maxRecDepth 100000 in
set_option maxHeartbeats 100000 in
theorem ec_build_s_r6 (X : ez_X) (I : Nat → Nat → Int32) (J : Nat → Nat → Int64) (R : Nat → Nat) (T : List ez_C) (s0 : Int32) (u : Int32) (w : Int32) (s : Int32) (i : Int32) (f : Nat → Int32) (g : Nat → Int64) (cz kz : Nat) : ∀ G : ez_F, fx_up X 7 G 85 85 [.ref 3, .int s0, .int u, .int w, .int s, .int i] [] (ev_hp (ev_sI I 5 f) (ev_sJ J 4 g) R T) cz kz = some (some (.int w), (ev_hp (ev_sI (ev_sI I 3 (upd (I 3) 3 (w + (1 : Int32)))) 5 f) (ev_sJ J 4 g) R T), cz, kz) := by
  intro G
  rfl
set_option maxRecDepth 100000 in
set_option maxHeartbeats 100000 in
theorem ec_build_s_r7 (X : ez_X) (I : Nat → Nat → Int32) (J : Nat → Nat → Int64) (R : Nat → Nat) (T : List ez_C) (s0 : Int32) (u : Int32) (w : Int32) (s : Int32) (i : Int32) (f : Nat → Int32) (g : Nat → Int64) (cz kz : Nat) : ∀ G : ez_F, fx_up X 2 G 85 35 [.ref 3, .int s0, .int u, .int w, .int s, .int i] [] (ev_hp (ev_sI I 5 f) (ev_sJ J 4 g) R T) cz kz = G 85 38 [.ref 3, .int s0, .int u, .int w, .int s, .int i, .int 0] [] (ev_hp (ev_sI I 5 f) (ev_sJ J 4 g) R T) cz kz := by
  intro G
  rfl
theorem ec_build_s (X : ez_X) (I : Nat → Nat → Int32) (J : Nat → Nat → Int64) (R : Nat → Nat) (T : List ez_C) (s0 : Int32) (u : Int32) (w : Int32)  : ∀ (n : Nat) (s : Int32) (i : Int32) (f : Nat → Int32) (g : Nat → Int64), ((2 : Int32).toInt - i.toInt).toNat < n → ev_W X 85 20 [.ref 3, .int s0, .int u, .int w, .int s, .int i] [] (ev_hp (ev_sI I 5 f) (ev_sJ J 4 g) R T) 0 0 (fun r h1 c1 k1 => r = some (.int w) ∧ (∃ f g, h1 = ev_hp (ev_sI (ev_sI I 3 (upd (I 3) 3 (w + 1))) 5 f) (ev_sJ J 4 g) R T) ∧ c1 = 0 ∧ k1 = 0) := by
  intro n
  induction n with
  | zero => intro s i f g hm; exact absurd hm (Nat.not_lt_zero _)
  | succ n ih =>
    intro s i f g hm
    refine ev_if (ec_build_s_r1 X I J R T s0 u w s i f g _ _) (fun b1 => ?_) (fun b1 => ?_)
    · replace b1 := of_decide_eq_true b1
      refine ev_if (ec_build_s_r2 X I J R T s0 u w s i f g _ _) (fun b2 => ?_) (fun b2 => ?_)
      · replace b2 := of_decide_eq_true b2
        refine ev_ret (ec_build_s_r3 X I J R T s0 u w s i f g _ _) ?_
        exact ⟨rfl, ⟨_, _, rfl⟩, rfl, rfl⟩
      · replace b2 := of_decide_eq_false b2
        refine ev_seg (ec_build_s_r4 X I J R T s0 u w s i f g _ _) ?_
        exact ec_build_q X I J R T s0 u w i (fun s f g => ih _ _ f g (by first | exact ev_up hm b2 | exact ev_up hm (fun z => b2 (Int32.le_trans (by decide) z)))) _ _ _ _ _ (Nat.lt_succ_self _)
    · replace b1 := of_decide_eq_false b1
      refine ev_if (ec_build_s_r5 X I J R T s0 u w s i f g _ _) (fun b3 => ?_) (fun b3 => ?_)
      · replace b3 := of_decide_eq_true b3
        refine ev_ret (ec_build_s_r6 X I J R T s0 u w s i f g _ _) ?_
        exact ⟨rfl, ⟨_, _, rfl⟩, rfl, rfl⟩
      · replace b3 := of_decide_eq_false b3
        refine ev_seg (ec_build_s_r7 X I J R T s0 u w s i f g _ _) ?_
        exact ec_build_q X I J R T s0 u w i (fun s f g => ih _ _ f g (by first | exact ev_up hm b3 | exact ev_up hm (fun z => b3 (Int32.le_trans (by decide) z)))) _ _ _ _ _ (Nat.lt_succ_self _)
set_option maxRecDepth 100000 in
set_option maxHeartbeats 100000 in
theorem ec_build_r1 (X : ez_X) (I : Nat → Nat → Int32) (J : Nat → Nat → Int64) (R : Nat → Nat) (T : List ez_C) (s0 : Int32) (u : Int32) (cz kz : Nat) : ∀ G : ez_F, fx_up X 8 G 85 0 [.ref 3, .int s0, .int u] [] (ev_hp I J R T) cz kz = ev_C G 38 [.ref 5, .int (I 3 3), .int 0] (ev_hp I J R T) fun r h1 c1 k1 => G 85 14 [.ref 3, .int s0, .int u, .int (I 3 3)] (r.toList ++ []) h1 (cz + c1) (kz + k1) := by
  intro G
  rfl
set_option maxRecDepth 100000 in
set_option maxHeartbeats 100000 in
theorem ec_build_r2 (X : ez_X) (I : Nat → Nat → Int32) (J : Nat → Nat → Int64) (R : Nat → Nat) (T : List ez_C) (s0 : Int32) (u : Int32) (cz kz : Nat) : ∀ G : ez_F, fx_up X 4 G 85 14 [.ref 3, .int s0, .int u, .int (I 3 3)] [] (ev_hp (ev_sI I 5 (ev_put 3 (I 5) (I 3 3) 0)) J R T) cz kz = G 85 20 [.ref 3, .int s0, .int u, .int (I 3 3), .int s0, .int 0] [] (ev_hp (ev_sI I 5 (ev_put 3 (I 5) (I 3 3) 0)) J R T) cz kz := by
  intro G
  rfl
theorem ec_build (X : ez_X) (I : Nat → Nat → Int32) (J : Nat → Nat → Int64) (R : Nat → Nat) (T : List ez_C) (s0 : Int32) (u : Int32)  : ev_W X 85 0 (ez_lay [.ref 3, .int s0, .int u]) [] (ev_hp I J R T) 0 0 (fun r h1 c1 k1 => r = some (.int (I 3 3)) ∧ (∃ f g, h1 = ev_hp (ev_sI (ev_sI I 3 (upd (I 3) 3 ((I 3 3) + 1))) 5 f) (ev_sJ J 4 g) R T) ∧ c1 = 0 ∧ k1 = 0) := by
  refine ev_call (ec_build_r1 X I J R T s0 u _ _) (ec_put X (ev_hp I J R T) 3 5 (I 3 3) 0 (I 5) rfl (by decide)) ?_
  rintro _ _ _ _ ⟨rfl, rfl, rfl, rfl⟩
  refine ev_seg (ec_build_r2 X I J R T s0 u _ _) ?_
  exact ec_build_s X I J R T s0 u _ _ _ _ _ (J 4) (Nat.lt_succ_self _)
