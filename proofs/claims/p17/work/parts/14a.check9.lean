/-! Checks of a long method, in slices. -/
def ez_okR (lo n : Nat) (m : Nat) (T : Nat → Option ez_I) : Bool := (List.range n).all fun j => match T (lo + j) with
  | none => true
  | some x => ez_okI () ez_M0 ez_K0 ez_nM 13 m (lo + j) x
theorem ez_okR_s {lo n m : Nat} {T : Nat → Option ez_I} (h : ez_okR lo n m T = true) {pc : Nat} {x : ez_I} (h1 : lo ≤ pc) (h2 : pc < lo + n) (hx : T pc = some x) : ez_okI () ez_M0 ez_K0 ez_nM 13 m pc x = true := by
  have h3 := List.all_eq_true.mp h (pc - lo) (List.mem_range.mpr (by omega))
  rw [show lo + (pc - lo) = pc by omega, hx] at h3
  exact h3
theorem ez_j241_0 : ez_okR 0 60 241 ez_t241 = true := by decide +kernel
theorem ez_j241_1 : ez_okR 60 60 241 ez_t241 = true := by decide +kernel
theorem ez_j241_2 : ez_okR 120 60 241 ez_t241 = true := by decide +kernel
theorem ez_j241_3 : ez_okR 180 60 241 ez_t241 = true := by decide +kernel
theorem ez_j241_4 : ez_okR 240 60 241 ez_t241 = true := by decide +kernel
theorem ez_j241_5 : ez_okR 300 60 241 ez_t241 = true := by decide +kernel
theorem ez_j241_6 : ez_okR 360 60 241 ez_t241 = true := by decide +kernel
theorem ez_j241_7 : ez_okR 420 60 241 ez_t241 = true := by decide +kernel
theorem ez_j241_8 : ez_okR 480 60 241 ez_t241 = true := by decide +kernel
theorem ez_j241_9 : ez_okR 540 60 241 ez_t241 = true := by decide +kernel
theorem ez_j241_10 : ez_okR 600 60 241 ez_t241 = true := by decide +kernel
theorem ez_j241_11 : ez_okR 660 60 241 ez_t241 = true := by decide +kernel
theorem ez_j241_12 : ez_okR 720 60 241 ez_t241 = true := by decide +kernel
theorem ez_j241_13 : ez_okR 780 60 241 ez_t241 = true := by decide +kernel
theorem ez_j241_14 : ez_okR 840 60 241 ez_t241 = true := by decide +kernel
theorem ez_j241_15 : ez_okR 900 60 241 ez_t241 = true := by decide +kernel
theorem ez_j241_16 : ez_okR 960 60 241 ez_t241 = true := by decide +kernel
theorem ez_j241_17 : ez_okR 1020 60 241 ez_t241 = true := by decide +kernel
theorem ez_i241 : ∀ (pc : Nat) (x : ez_I), ez_P0 241 pc = some x → ez_okI () ez_M0 ez_K0 ez_nM 13 241 pc x = true := by
  intro pc x hx
  have hx' : ez_guard 1080 ez_t241 pc = some x := hx
  unfold ez_guard at hx'
  obtain ⟨h1, h2⟩ := ez_bif hx'
  have h3 : pc < 1080 := Nat.le_of_ble_eq_true h1
  by_cases g0 : pc < 60
  · exact ez_okR_s ez_j241_0 (by omega) (by omega) h2
  by_cases g1 : pc < 120
  · exact ez_okR_s ez_j241_1 (by omega) (by omega) h2
  by_cases g2 : pc < 180
  · exact ez_okR_s ez_j241_2 (by omega) (by omega) h2
  by_cases g3 : pc < 240
  · exact ez_okR_s ez_j241_3 (by omega) (by omega) h2
  by_cases g4 : pc < 300
  · exact ez_okR_s ez_j241_4 (by omega) (by omega) h2
  by_cases g5 : pc < 360
  · exact ez_okR_s ez_j241_5 (by omega) (by omega) h2
  by_cases g6 : pc < 420
  · exact ez_okR_s ez_j241_6 (by omega) (by omega) h2
  by_cases g7 : pc < 480
  · exact ez_okR_s ez_j241_7 (by omega) (by omega) h2
  by_cases g8 : pc < 540
  · exact ez_okR_s ez_j241_8 (by omega) (by omega) h2
  by_cases g9 : pc < 600
  · exact ez_okR_s ez_j241_9 (by omega) (by omega) h2
  by_cases g10 : pc < 660
  · exact ez_okR_s ez_j241_10 (by omega) (by omega) h2
  by_cases g11 : pc < 720
  · exact ez_okR_s ez_j241_11 (by omega) (by omega) h2
  by_cases g12 : pc < 780
  · exact ez_okR_s ez_j241_12 (by omega) (by omega) h2
  by_cases g13 : pc < 840
  · exact ez_okR_s ez_j241_13 (by omega) (by omega) h2
  by_cases g14 : pc < 900
  · exact ez_okR_s ez_j241_14 (by omega) (by omega) h2
  by_cases g15 : pc < 960
  · exact ez_okR_s ez_j241_15 (by omega) (by omega) h2
  by_cases g16 : pc < 1020
  · exact ez_okR_s ez_j241_16 (by omega) (by omega) h2
  by_cases g17 : pc < 1080
  · exact ez_okR_s ez_j241_17 (by omega) (by omega) h2
  exact absurd h3 (by omega)
