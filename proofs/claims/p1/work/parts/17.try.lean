set_option maxRecDepth 100000 in
theorem zz_1 (X : ez_X) (I : Nat → Nat → Int32) (J : Nat → Nat → Int64) (R : Nat → Nat) (T : List ez_C) (w : Int32) (h : Int32) (r : Int32) (c k : Nat) : ∀ F : Nat, ev_R X (F + 1000) 145 0 [.ref 1, .int w, .int h, .int r] [] (ev_hp I J R T) c k = bif decide (h ≤ (0 : Int32)) then ev_R X (F + 964) 145 79 [.ref 1, .int w, .int h, .int r, .int 0] [] (ev_hp (ev_sI I 1 (upd (upd (upd (upd (upd (upd (I 1) 3 w) 4 h) 5 r) 6 (w * h)) 1 0) 2 0)) (ev_sJ J 1 (vp_updL (vp_updL (J 1) 7 (((1 : Int64) <<< (((w * h) : Int32).toInt64 &&& 63)) - 1)) 8 0)) R T) c k else ev_R X (F + 964) 145 58 [.ref 1, .int w, .int h, .int r, .int 0] [] (ev_hp (ev_sI I 1 (upd (upd (upd (upd (upd (upd (I 1) 3 w) 4 h) 5 r) 6 (w * h)) 1 0) 2 0)) (ev_sJ J 1 (vp_updL (vp_updL (J 1) 7 (((1 : Int64) <<< (((w * h) : Int32).toInt64 &&& 63)) - 1)) 8 0)) R T) c k := by
  intro F
  rfl
set_option maxRecDepth 100000 in
theorem zz_2 (X : ez_X) (I : Nat → Nat → Int32) (J : Nat → Nat → Int64) (R : Nat → Nat) (T : List ez_C) (z : Int64) (c k : Nat) : ∀ F : Nat, ev_R X (F + 1000) 121 0 [.ref 8, .long z, ez_fill] [] (ev_hp I J R T) c k = ev_C X (F + 994) 39 [.ref 9, .int (I 8 1), .long z] (ev_hp I J R T) fun r h1 c1 k1 => ev_R X (F + 994) 121 12 [.ref 8, .long z, ez_fill] (r.toList ++ []) h1 (c + c1) (k + k1) := by
  intro F
  rfl
set_option maxRecDepth 100000 in
theorem zz_3 (X : ez_X) (I : Nat → Nat → Int32) (J : Nat → Nat → Int64) (R : Nat → Nat) (T : List ez_C) (x : Int32) (c k : Nat) : ∀ F : Nat, ev_R X (F + 1000) 234 0 [.int x] [] (ev_hp I J R T) c k = some (some (.int ((((((((x - ((x.toUInt32 >>> 1).toInt32 &&& 1431655765)) &&& 858993459) + (((x - ((x.toUInt32 >>> 1).toInt32 &&& 1431655765)).toUInt32 >>> 2).toInt32 &&& 858993459)) + ((((x - ((x.toUInt32 >>> 1).toInt32 &&& 1431655765)) &&& 858993459) + (((x - ((x.toUInt32 >>> 1).toInt32 &&& 1431655765)).toUInt32 >>> 2).toInt32 &&& 858993459)).toUInt32 >>> 4).toInt32) &&& 252645135) + ((((((x - ((x.toUInt32 >>> 1).toInt32 &&& 1431655765)) &&& 858993459) + (((x - ((x.toUInt32 >>> 1).toInt32 &&& 1431655765)).toUInt32 >>> 2).toInt32 &&& 858993459)) + ((((x - ((x.toUInt32 >>> 1).toInt32 &&& 1431655765)) &&& 858993459) + (((x - ((x.toUInt32 >>> 1).toInt32 &&& 1431655765)).toUInt32 >>> 2).toInt32 &&& 858993459)).toUInt32 >>> 4).toInt32) &&& 252645135).toUInt32 >>> 8).toInt32) + (((((((x - ((x.toUInt32 >>> 1).toInt32 &&& 1431655765)) &&& 858993459) + (((x - ((x.toUInt32 >>> 1).toInt32 &&& 1431655765)).toUInt32 >>> 2).toInt32 &&& 858993459)) + ((((x - ((x.toUInt32 >>> 1).toInt32 &&& 1431655765)) &&& 858993459) + (((x - ((x.toUInt32 >>> 1).toInt32 &&& 1431655765)).toUInt32 >>> 2).toInt32 &&& 858993459)).toUInt32 >>> 4).toInt32) &&& 252645135) + ((((((x - ((x.toUInt32 >>> 1).toInt32 &&& 1431655765)) &&& 858993459) + (((x - ((x.toUInt32 >>> 1).toInt32 &&& 1431655765)).toUInt32 >>> 2).toInt32 &&& 858993459)) + ((((x - ((x.toUInt32 >>> 1).toInt32 &&& 1431655765)) &&& 858993459) + (((x - ((x.toUInt32 >>> 1).toInt32 &&& 1431655765)).toUInt32 >>> 2).toInt32 &&& 858993459)).toUInt32 >>> 4).toInt32) &&& 252645135).toUInt32 >>> 8).toInt32).toUInt32 >>> 16).toInt32) &&& 63)), (ev_hp I J R T), c, k) := by
  intro F
  rfl
set_option maxRecDepth 100000 in
theorem zz_4 (X : ez_X) (I : Nat → Nat → Int32) (J : Nat → Nat → Int64) (R : Nat → Nat) (T : List ez_C) (x : Int32) (y : Int32) (c k : Nat) : ∀ F : Nat, ev_R X (F + 1000) 45 0 [.int x, .int y] [] (ev_hp I J R T) c k = some (some (.int ((x >>> ((9 * (2 - y)) &&& 31)) &&& 511)), (ev_hp I J R T), c, k) := by
  intro F
  rfl
set_option maxRecDepth 100000 in
theorem zz_5 (X : ez_X) (I : Nat → Nat → Int32) (J : Nat → Nat → Int64) (R : Nat → Nat) (T : List ez_C) (c k : Nat) : ∀ F : Nat, ev_R X (F + 1000) 12 0 [.ref 0] [] (ev_hp I J R T) c k = some (none, (ev_hp (ev_sI (ev_sI I 13 (upd (upd (I 13) 8 0) 9 0)) 20 (upd (I 20) 3 0)) J R T), c, k) := by
  intro F
  rfl
set_option maxRecDepth 100000 in
theorem zz_6 (X : ez_X) (I : Nat → Nat → Int32) (J : Nat → Nat → Int64) (R : Nat → Nat) (T : List ez_C) (c k : Nat) : ∀ F : Nat, ev_R X (F + 1000) 28 0 [.ref 0] [] (ev_hp I J R T) c k = some (none, (ev_hp (ev_sI (ev_sI (ev_sI (ev_sI I 6 (upd (I 6) 4 0)) 13 (upd (upd (I 13) 8 0) 9 0)) 20 (upd (I 20) 3 0)) 22 (upd (upd (I 22) 8 0) 11 (-1))) J R T), c, k) := by
  intro F
  rfl
set_option maxRecDepth 100000 in
theorem zz_7 (X : ez_X) (I : Nat → Nat → Int32) (J : Nat → Nat → Int64) (R : Nat → Nat) (T : List ez_C) (c k : Nat) : ∀ F : Nat, ev_R X (F + 1000) 72 0 [.ref 32] [] (ev_hp I J R T) c k = some (none, (ev_hp (ev_sI I 33 (upd (upd (upd (upd (upd (upd (upd (upd (upd (upd (upd (upd (I 33) 0 (-1)) 1 (-1)) 2 (-1)) 3 (-1)) 4 (-1)) 5 (-1)) 6 (-1)) 7 (-1)) 8 (-1)) 9 (-1)) 10 (-1)) 11 (-1))) J R T), c, k) := by
  intro F
  rfl
