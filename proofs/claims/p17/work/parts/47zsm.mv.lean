/-! Ships drift: the class's way and the reference's come to the same. -/
def mvP (W H wr dx dy : Int32) (z : Int64) : Int64 := md W wr (W * H) (al_F (W * H)) (ma W wr (fc_F W H) (lc_F W H) z dx) dy
def dr1 (W : Int32) (lc z : Int64) (dx : Int32) : Int64 := if dx = 1 then sl (z &&& (lc ^^^ (-1))) 1 ||| us (z &&& lc) (W - 1) else z
def dr2 (W : Int32) (fc z : Int64) (dx : Int32) : Int64 := if dx = -1 then us (z &&& (fc ^^^ (-1))) 1 ||| sl (z &&& fc) (W - 1) else z
def dr3 (W H : Int32) (al z : Int64) (dy : Int32) : Int64 := if dy = 1 then (sl z W &&& al) ||| us z (W * (H - 1)) else z
def dr4 (W H : Int32) (al z : Int64) (dy : Int32) : Int64 := if dy = -1 then us z W ||| (sl z (W * (H - 1)) &&& al) else z
/-- the reference's way, by shifts that know no sign -/
def drS (W H dx dy : Int32) (z : Int64) : Int64 := dr4 W H (al_F (W * H)) (dr3 W H (al_F (W * H)) (dr2 W (fc_F W H) (dr1 W (lc_F W H) z dx) dx) dy) dy
section
variable (W H wr dx dy : Int32) (fc lc al x y : Int64)
theorem mvP_or : mvP W H wr dx dy (x ||| y) = mvP W H wr dx dy x ||| mvP W H wr dx dy y := by
  unfold mvP
  rw [ma_or, md_or]
theorem dr1_or : dr1 W lc (x ||| y) dx = dr1 W lc x dx ||| dr1 W lc y dx := by
  unfold dr1
  split
  · rw [and_o, and_o, sl_or, us_or, or4]
  · rfl
theorem dr2_or : dr2 W fc (x ||| y) dx = dr2 W fc x dx ||| dr2 W fc y dx := by
  unfold dr2
  split
  · rw [and_o, and_o, us_or, sl_or, or4]
  · rfl
theorem dr3_or : dr3 W H al (x ||| y) dy = dr3 W H al x dy ||| dr3 W H al y dy := by
  unfold dr3
  split
  · rw [sl_or, and_o, us_or, or4]
  · rfl
theorem dr4_or : dr4 W H al (x ||| y) dy = dr4 W H al x dy ||| dr4 W H al y dy := by
  unfold dr4
  split
  · rw [us_or, sl_or, and_o, or4]
  · rfl
theorem drS_or : drS W H dx dy (x ||| y) = drS W H dx dy x ||| drS W H dx dy y := by
  unfold drS
  rw [dr1_or, dr2_or, dr3_or, dr4_or]
end
def dr12 (W H dx : Int32) (z : Int64) : Int64 := dr2 W (fc_F W H) (dr1 W (lc_F W H) z dx) dx
theorem dr12_or (W H dx : Int32) (x y : Int64) : dr12 W H dx (x ||| y) = dr12 W H dx x ||| dr12 W H dx y := by
  unfold dr12
  rw [dr1_or, dr2_or]
/-- what is looked up: cell by cell, and no cell -/
def mv_1 (W H : Nat) (dx dy : Int32) (z : Int64) : Bool := decide (drS (Int32.ofNat W) (Int32.ofNat H) dx dy z = mvP (Int32.ofNat W) (Int32.ofNat H) 1 dx dy z) && (decide (mvP (Int32.ofNat W) (Int32.ofNat H) 1 dx dy z &&& al_F (Int32.ofNat (W * H)) = mvP (Int32.ofNat W) (Int32.ofNat H) 1 dx dy z) && decide (dr12 (Int32.ofNat W) (Int32.ofNat H) dx z &&& al_F (Int32.ofNat (W * H)) = dr12 (Int32.ofNat W) (Int32.ofNat H) dx z))
def mw_tab (W H : Nat) : Bool := [(-1 : Int32), 0, 1].all fun dx => [(-1 : Int32), 0, 1].all fun dy => mv_1 W H dx dy 0 && (List.range (W * H)).all fun c => mv_1 W H dx dy (cell1 c)
theorem mv_t2 : ((List.range 5).all fun h => mw_tab 2 (h + 2)) = true := by decide +kernel
theorem mv_t3 : ((List.range 5).all fun h => mw_tab 3 (h + 2)) = true := by decide +kernel
theorem mv_t4 : ((List.range 5).all fun h => mw_tab 4 (h + 2)) = true := by decide +kernel
theorem mv_t5 : ((List.range 5).all fun h => mw_tab 5 (h + 2)) = true := by decide +kernel
theorem mv_t6 : ((List.range 5).all fun h => mw_tab 6 (h + 2)) = true := by decide +kernel
theorem and_or_r {x y m : Int64} (hx : x &&& m = x) (hy : y &&& m = y) : (x ||| y) &&& m = x ||| y := by
  rw [and_o, hx, hy]
theorem mv_1_or {W H : Nat} {dx dy : Int32} {x y : Int64} (hx : mv_1 W H dx dy x = true) (hy : mv_1 W H dx dy y = true) : mv_1 W H dx dy (x ||| y) = true := by
  unfold mv_1 at hx hy ⊢
  simp only [Bool.and_eq_true, decide_eq_true_eq] at hx hy ⊢
  refine ⟨?_, ?_, ?_⟩
  · rw [drS_or, mvP_or, hx.1, hy.1]
  · rw [mvP_or]
    exact and_or_r hx.2.1 hy.2.1
  · rw [dr12_or]
    exact and_or_r hx.2.2 hy.2.2
def d1 (d : Int32) : Prop := d = -1 ∨ d = 0 ∨ d = 1
theorem mv_ts {W H : Nat} {dx dy : Int32} (hW : 2 ≤ W ∧ W ≤ 6) (hH : 2 ≤ H ∧ H ≤ 6) (hx : d1 dx) (hy : d1 dy) : mv_1 W H dx dy 0 = true ∧ ∀ c, c < W * H → mv_1 W H dx dy (cell1 c) = true := by
  have h0 : mw_tab W H = true := by
    have key : ∀ w, ((List.range 5).all fun h => mw_tab w (h + 2)) = true → mw_tab w H = true := fun w h => by
      have := List.all_eq_true.mp h (H - 2) (List.mem_range.mpr (by omega))
      rw [show H - 2 + 2 = H by omega] at this
      exact this
    rcases (show W = 2 ∨ W = 3 ∨ W = 4 ∨ W = 5 ∨ W = 6 by omega) with rfl | rfl | rfl | rfl | rfl
    · exact key 2 mv_t2
    · exact key 3 mv_t3
    · exact key 4 mv_t4
    · exact key 5 mv_t5
    · exact key 6 mv_t6
  have hm : ∀ d : Int32, d1 d → d ∈ [(-1 : Int32), 0, 1] := by
    rintro d (rfl | rfl | rfl) <;> decide
  have h1 := List.all_eq_true.mp (List.all_eq_true.mp h0 dx (hm dx hx)) dy (hm dy hy)
  obtain ⟨h2, h3⟩ := Bool.and_eq_true_iff.mp h1
  exact ⟨h2, fun c hc => List.all_eq_true.mp h3 c (List.mem_range.mpr hc)⟩
/-- a set of cells of the paper -/
def onp (n : Nat) (z : Int64) : Prop := ∀ i, n ≤ i → kb z i = false
theorem mv_all {W H : Nat} {dx dy : Int32} (hW : 2 ≤ W ∧ W ≤ 6) (hH : 2 ≤ H ∧ H ≤ 6) (hx : d1 dx) (hy : d1 dy) {z : Int64} (hz : onp (W * H) z) : mv_1 W H dx dy z = true := by
  obtain ⟨h0, h1⟩ := mv_ts hW hH hx hy
  have key : ∀ c, c ≤ W * H → mv_1 W H dx dy (pz z c) = true := by
    intro c
    induction c with
    | zero => intro _; exact h0
    | succ c ih =>
      intro hc
      unfold pz
      split
      · exact mv_1_or (ih (by omega)) (h1 c (by omega))
      · exact ih (by omega)
  have h36 : W * H ≤ 6 * 6 := Nat.mul_le_mul hW.2 hH.2
  have h2 := key (W * H) (Nat.le_refl _)
  rw [pz_all (by omega) hz] at h2
  exact h2
theorem al_kb {n i : Nat} (hn : n ≤ 36) : kb (al_F (Int32.ofNat n)) i = decide (i < n) := by
  have key : ((List.range 37).all fun n => (List.range 64).all fun i => kb (al_F (Int32.ofNat n)) i == decide (i < n)) = true := by decide +kernel
  by_cases hi : i < 64
  · have h1 := List.all_eq_true.mp (List.all_eq_true.mp key n (List.mem_range.mpr (by omega))) i (List.mem_range.mpr hi)
    exact eq_of_beq h1
  · rw [kb_64 _ (by omega), decide_eq_false (by omega)]
theorem onp_al {n : Nat} (hn : n ≤ 36) {z : Int64} (h : z &&& al_F (Int32.ofNat n) = z) : onp n z := by
  intro i hi
  rw [← h, kb_and, al_kb hn, decide_eq_false (by omega), Bool.and_false]
theorem mv_s {W H : Nat} {dx dy : Int32} (hW : 2 ≤ W ∧ W ≤ 6) (hH : 2 ≤ H ∧ H ≤ 6) (hx : d1 dx) (hy : d1 dy) {z : Int64} (hz : onp (W * H) z) : drS (Int32.ofNat W) (Int32.ofNat H) dx dy z = mvP (Int32.ofNat W) (Int32.ofNat H) 1 dx dy z ∧ onp (W * H) (mvP (Int32.ofNat W) (Int32.ofNat H) 1 dx dy z) ∧ onp (W * H) (dr12 (Int32.ofNat W) (Int32.ofNat H) dx z) := by
  have h := mv_all hW hH hx hy hz
  have h36 : W * H ≤ 6 * 6 := Nat.mul_le_mul hW.2 hH.2
  unfold mv_1 at h
  simp only [Bool.and_eq_true, decide_eq_true_eq] at h
  exact ⟨h.1, onp_al (by omega) h.2.1, onp_al (by omega) h.2.2⟩
theorem onp_and {n : Nat} {z m : Int64} (h : onp n z) : onp n (z &&& m) := fun i hi => by rw [kb_and, h i hi, Bool.false_and]
/-- a shift to the right knows no sign where there is none -/
theorem sr_us {z : Int64} (h : kb z 63 = false) {n : Nat} (hn : n < 64) : z >>> ((Int32.ofNat n).toInt64 &&& (63 : Int64)) = us z (Int32.ofNat n) := by
  have hm : z.toBitVec.msb = false := by
    rw [BitVec.msb_eq_getLsbD_last]
    exact h
  have e2 : ((Int32.ofNat n).toInt64.toUInt64 &&& Int64.toUInt64 63).toBitVec % 64 = BitVec.ofNat 64 n := by
    have key : ∀ n, n < 64 → ((Int32.ofNat n).toInt64.toUInt64 &&& Int64.toUInt64 63).toBitVec % 64 = BitVec.ofNat 64 n := by decide +kernel
    exact key n hn
  refine Int64.toBitVec_inj.mp ?_
  unfold us
  rw [Int64.toBitVec_shiftRight, BitVec.sshiftRight_eq', sh_6 n hn, BitVec.sshiftRight_eq_of_msb_false hm]
  show z.toBitVec >>> n = (z.toUInt64 >>> ((Int32.ofNat n).toInt64.toUInt64 &&& Int64.toUInt64 63)).toBitVec
  rw [UInt64.toBitVec_shiftRight, e2, BitVec.ushiftRight_eq', BitVec.toNat_ofNat, Nat.mod_eq_of_lt (by omega)]
  rfl
