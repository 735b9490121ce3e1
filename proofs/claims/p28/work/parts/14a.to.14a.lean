section
/-! The tables are the bytecode's and the Statement's. -/
noncomputable def ez_okG (n : Nat) (m : Nat) (T : Nat → Option ez_I) : Bool := (List.range n).all fun pc => match T pc with
  | none => true
  | some x => ez_okI () ez_M0 ez_K0 ez_nM 13 m pc x
theorem ez_okG_s {n m : Nat} {T : Nat → Option ez_I} (hP : ∀ pc, ez_P0 m pc = ez_guard n T pc) (h : ez_okG n m T = true) : ∀ (pc : Nat) (x : ez_I), ez_P0 m pc = some x → ez_okI () ez_M0 ez_K0 ez_nM 13 m pc x = true := by
  intro pc x hx
  rw [hP] at hx
  unfold ez_guard at hx
  obtain ⟨h1, h2⟩ := ez_bif hx
  have h3 := List.all_eq_true.mp h pc (List.mem_range.mpr (Nat.le_of_ble_eq_true h1))
  rw [h2] at h3
  exact h3
theorem ez_i0 : ∀ (pc : Nat) (x : ez_I), ez_P0 0 pc = some x → ez_okI () ez_M0 ez_K0 ez_nM 13 0 pc x = true := ez_okG_s (n := 203) (T := ez_t0) (fun _ => rfl) (by decide +kernel)
theorem ez_i1 : ∀ (pc : Nat) (x : ez_I), ez_P0 1 pc = some x → ez_okI () ez_M0 ez_K0 ez_nM 13 1 pc x = true := ez_okG_s (n := 47) (T := ez_t1) (fun _ => rfl) (by decide +kernel)
theorem ez_i2 : ∀ (pc : Nat) (x : ez_I), ez_P0 2 pc = some x → ez_okI () ez_M0 ez_K0 ez_nM 13 2 pc x = true := ez_okG_s (n := 15) (T := ez_t2) (fun _ => rfl) (by decide +kernel)
theorem ez_i3 : ∀ (pc : Nat) (x : ez_I), ez_P0 3 pc = some x → ez_okI () ez_M0 ez_K0 ez_nM 13 3 pc x = true := ez_okG_s (n := 18) (T := ez_t3) (fun _ => rfl) (by decide +kernel)
theorem ez_i4 : ∀ (pc : Nat) (x : ez_I), ez_P0 4 pc = some x → ez_okI () ez_M0 ez_K0 ez_nM 13 4 pc x = true := ez_okG_s (n := 18) (T := ez_t4) (fun _ => rfl) (by decide +kernel)
theorem ez_i5 : ∀ (pc : Nat) (x : ez_I), ez_P0 5 pc = some x → ez_okI () ez_M0 ez_K0 ez_nM 13 5 pc x = true := ez_okG_s (n := 33) (T := ez_t5) (fun _ => rfl) (by decide +kernel)
theorem ez_i6 : ∀ (pc : Nat) (x : ez_I), ez_P0 6 pc = some x → ez_okI () ez_M0 ez_K0 ez_nM 13 6 pc x = true := ez_okG_s (n := 62) (T := ez_t6) (fun _ => rfl) (by decide +kernel)
theorem ez_i7 : ∀ (pc : Nat) (x : ez_I), ez_P0 7 pc = some x → ez_okI () ez_M0 ez_K0 ez_nM 13 7 pc x = true := ez_okG_s (n := 88) (T := ez_t7) (fun _ => rfl) (by decide +kernel)
theorem ez_i8 : ∀ (pc : Nat) (x : ez_I), ez_P0 8 pc = some x → ez_okI () ez_M0 ez_K0 ez_nM 13 8 pc x = true := ez_okG_s (n := 46) (T := ez_t8) (fun _ => rfl) (by decide +kernel)
theorem ez_i9 : ∀ (pc : Nat) (x : ez_I), ez_P0 9 pc = some x → ez_okI () ez_M0 ez_K0 ez_nM 13 9 pc x = true := ez_okG_s (n := 43) (T := ez_t9) (fun _ => rfl) (by decide +kernel)
theorem ez_i10 : ∀ (pc : Nat) (x : ez_I), ez_P0 10 pc = some x → ez_okI () ez_M0 ez_K0 ez_nM 13 10 pc x = true := ez_okG_s (n := 21) (T := ez_t10) (fun _ => rfl) (by decide +kernel)
theorem ez_i11 : ∀ (pc : Nat) (x : ez_I), ez_P0 11 pc = some x → ez_okI () ez_M0 ez_K0 ez_nM 13 11 pc x = true := ez_okG_s (n := 45) (T := ez_t11) (fun _ => rfl) (by decide +kernel)
theorem ez_i12 : ∀ (pc : Nat) (x : ez_I), ez_P0 12 pc = some x → ez_okI () ez_M0 ez_K0 ez_nM 13 12 pc x = true := ez_okG_s (n := 12) (T := ez_t12) (fun _ => rfl) (by decide +kernel)
theorem ez_i13 : ∀ (pc : Nat) (x : ez_I), ez_P0 13 pc = some x → ez_okI () ez_M0 ez_K0 ez_nM 13 13 pc x = true := ez_okG_s (n := 32) (T := ez_t13) (fun _ => rfl) (by decide +kernel)
theorem ez_i14 : ∀ (pc : Nat) (x : ez_I), ez_P0 14 pc = some x → ez_okI () ez_M0 ez_K0 ez_nM 13 14 pc x = true := ez_okG_s (n := 46) (T := ez_t14) (fun _ => rfl) (by decide +kernel)
theorem ez_i15 : ∀ (pc : Nat) (x : ez_I), ez_P0 15 pc = some x → ez_okI () ez_M0 ez_K0 ez_nM 13 15 pc x = true := ez_okG_s (n := 26) (T := ez_t15) (fun _ => rfl) (by decide +kernel)
theorem ez_i16 : ∀ (pc : Nat) (x : ez_I), ez_P0 16 pc = some x → ez_okI () ez_M0 ez_K0 ez_nM 13 16 pc x = true := ez_okG_s (n := 49) (T := ez_t16) (fun _ => rfl) (by decide +kernel)
theorem ez_i17 : ∀ (pc : Nat) (x : ez_I), ez_P0 17 pc = some x → ez_okI () ez_M0 ez_K0 ez_nM 13 17 pc x = true := ez_okG_s (n := 20) (T := ez_t17) (fun _ => rfl) (by decide +kernel)
theorem ez_i18 : ∀ (pc : Nat) (x : ez_I), ez_P0 18 pc = some x → ez_okI () ez_M0 ez_K0 ez_nM 13 18 pc x = true := ez_okG_s (n := 66) (T := ez_t18) (fun _ => rfl) (by decide +kernel)
theorem ez_i19 : ∀ (pc : Nat) (x : ez_I), ez_P0 19 pc = some x → ez_okI () ez_M0 ez_K0 ez_nM 13 19 pc x = true := ez_okG_s (n := 18) (T := ez_t19) (fun _ => rfl) (by decide +kernel)
theorem ez_i20 : ∀ (pc : Nat) (x : ez_I), ez_P0 20 pc = some x → ez_okI () ez_M0 ez_K0 ez_nM 13 20 pc x = true := ez_okG_s (n := 79) (T := ez_t20) (fun _ => rfl) (by decide +kernel)
theorem ez_i21 : ∀ (pc : Nat) (x : ez_I), ez_P0 21 pc = some x → ez_okI () ez_M0 ez_K0 ez_nM 13 21 pc x = true := ez_okG_s (n := 15) (T := ez_t21) (fun _ => rfl) (by decide +kernel)
theorem ez_i22 : ∀ (pc : Nat) (x : ez_I), ez_P0 22 pc = some x → ez_okI () ez_M0 ez_K0 ez_nM 13 22 pc x = true := ez_okG_s (n := 15) (T := ez_t22) (fun _ => rfl) (by decide +kernel)
theorem ez_i23 : ∀ (pc : Nat) (x : ez_I), ez_P0 23 pc = some x → ez_okI () ez_M0 ez_K0 ez_nM 13 23 pc x = true := ez_okG_s (n := 15) (T := ez_t23) (fun _ => rfl) (by decide +kernel)
theorem ez_i24 : ∀ (pc : Nat) (x : ez_I), ez_P0 24 pc = some x → ez_okI () ez_M0 ez_K0 ez_nM 13 24 pc x = true := ez_okG_s (n := 15) (T := ez_t24) (fun _ => rfl) (by decide +kernel)
theorem ez_i25 : ∀ (pc : Nat) (x : ez_I), ez_P0 25 pc = some x → ez_okI () ez_M0 ez_K0 ez_nM 13 25 pc x = true := ez_okG_s (n := 15) (T := ez_t25) (fun _ => rfl) (by decide +kernel)
theorem ez_i26 : ∀ (pc : Nat) (x : ez_I), ez_P0 26 pc = some x → ez_okI () ez_M0 ez_K0 ez_nM 13 26 pc x = true := ez_okG_s (n := 47) (T := ez_t26) (fun _ => rfl) (by decide +kernel)
theorem ez_i27 : ∀ (pc : Nat) (x : ez_I), ez_P0 27 pc = some x → ez_okI () ez_M0 ez_K0 ez_nM 13 27 pc x = true := ez_okG_s (n := 20) (T := ez_t27) (fun _ => rfl) (by decide +kernel)
theorem ez_i28 : ∀ (pc : Nat) (x : ez_I), ez_P0 28 pc = some x → ez_okI () ez_M0 ez_K0 ez_nM 13 28 pc x = true := ez_okG_s (n := 19) (T := ez_t28) (fun _ => rfl) (by decide +kernel)
theorem ez_i29 : ∀ (pc : Nat) (x : ez_I), ez_P0 29 pc = some x → ez_okI () ez_M0 ez_K0 ez_nM 13 29 pc x = true := ez_okG_s (n := 20) (T := ez_t29) (fun _ => rfl) (by decide +kernel)
theorem ez_i30 : ∀ (pc : Nat) (x : ez_I), ez_P0 30 pc = some x → ez_okI () ez_M0 ez_K0 ez_nM 13 30 pc x = true := ez_okG_s (n := 22) (T := ez_t30) (fun _ => rfl) (by decide +kernel)
theorem ez_i31 : ∀ (pc : Nat) (x : ez_I), ez_P0 31 pc = some x → ez_okI () ez_M0 ez_K0 ez_nM 13 31 pc x = true := ez_okG_s (n := 73) (T := ez_t31) (fun _ => rfl) (by decide +kernel)
theorem ez_i32 : ∀ (pc : Nat) (x : ez_I), ez_P0 32 pc = some x → ez_okI () ez_M0 ez_K0 ez_nM 13 32 pc x = true := ez_okG_s (n := 40) (T := ez_t32) (fun _ => rfl) (by decide +kernel)
theorem ez_i33 : ∀ (pc : Nat) (x : ez_I), ez_P0 33 pc = some x → ez_okI () ez_M0 ez_K0 ez_nM 13 33 pc x = true := ez_okG_s (n := 82) (T := ez_t33) (fun _ => rfl) (by decide +kernel)
theorem ez_i34 : ∀ (pc : Nat) (x : ez_I), ez_P0 34 pc = some x → ez_okI () ez_M0 ez_K0 ez_nM 13 34 pc x = true := ez_okG_s (n := 37) (T := ez_t34) (fun _ => rfl) (by decide +kernel)
theorem ez_i35 : ∀ (pc : Nat) (x : ez_I), ez_P0 35 pc = some x → ez_okI () ez_M0 ez_K0 ez_nM 13 35 pc x = true := ez_okG_s (n := 30) (T := ez_t35) (fun _ => rfl) (by decide +kernel)
theorem ez_i36 : ∀ (pc : Nat) (x : ez_I), ez_P0 36 pc = some x → ez_okI () ez_M0 ez_K0 ez_nM 13 36 pc x = true := ez_okG_s (n := 14) (T := ez_t36) (fun _ => rfl) (by decide +kernel)
theorem ez_i37 : ∀ (pc : Nat) (x : ez_I), ez_P0 37 pc = some x → ez_okI () ez_M0 ez_K0 ez_nM 13 37 pc x = true := ez_okG_s (n := 45) (T := ez_t37) (fun _ => rfl) (by decide +kernel)
theorem ez_i38 : ∀ (pc : Nat) (x : ez_I), ez_P0 38 pc = some x → ez_okI () ez_M0 ez_K0 ez_nM 13 38 pc x = true := ez_okG_s (n := 15) (T := ez_t38) (fun _ => rfl) (by decide +kernel)
theorem ez_i39 : ∀ (pc : Nat) (x : ez_I), ez_P0 39 pc = some x → ez_okI () ez_M0 ez_K0 ez_nM 13 39 pc x = true := ez_okG_s (n := 15) (T := ez_t39) (fun _ => rfl) (by decide +kernel)
theorem ez_i40 : ∀ (pc : Nat) (x : ez_I), ez_P0 40 pc = some x → ez_okI () ez_M0 ez_K0 ez_nM 13 40 pc x = true := ez_okG_s (n := 51) (T := ez_t40) (fun _ => rfl) (by decide +kernel)
theorem ez_i41 : ∀ (pc : Nat) (x : ez_I), ez_P0 41 pc = some x → ez_okI () ez_M0 ez_K0 ez_nM 13 41 pc x = true := ez_okG_s (n := 41) (T := ez_t41) (fun _ => rfl) (by decide +kernel)
theorem ez_i42 : ∀ (pc : Nat) (x : ez_I), ez_P0 42 pc = some x → ez_okI () ez_M0 ez_K0 ez_nM 13 42 pc x = true := ez_okG_s (n := 76) (T := ez_t42) (fun _ => rfl) (by decide +kernel)
theorem ez_i43 : ∀ (pc : Nat) (x : ez_I), ez_P0 43 pc = some x → ez_okI () ez_M0 ez_K0 ez_nM 13 43 pc x = true := ez_okG_s (n := 73) (T := ez_t43) (fun _ => rfl) (by decide +kernel)
theorem ez_i44 : ∀ (pc : Nat) (x : ez_I), ez_P0 44 pc = some x → ez_okI () ez_M0 ez_K0 ez_nM 13 44 pc x = true := ez_okG_s (n := 46) (T := ez_t44) (fun _ => rfl) (by decide +kernel)
theorem ez_i45 : ∀ (pc : Nat) (x : ez_I), ez_P0 45 pc = some x → ez_okI () ez_M0 ez_K0 ez_nM 13 45 pc x = true := ez_okG_s (n := 13) (T := ez_t45) (fun _ => rfl) (by decide +kernel)
theorem ez_i46 : ∀ (pc : Nat) (x : ez_I), ez_P0 46 pc = some x → ez_okI () ez_M0 ez_K0 ez_nM 13 46 pc x = true := ez_okG_s (n := 22) (T := ez_t46) (fun _ => rfl) (by decide +kernel)
theorem ez_i47 : ∀ (pc : Nat) (x : ez_I), ez_P0 47 pc = some x → ez_okI () ez_M0 ez_K0 ez_nM 13 47 pc x = true := ez_okG_s (n := 25) (T := ez_t47) (fun _ => rfl) (by decide +kernel)
theorem ez_i48 : ∀ (pc : Nat) (x : ez_I), ez_P0 48 pc = some x → ez_okI () ez_M0 ez_K0 ez_nM 13 48 pc x = true := ez_okG_s (n := 53) (T := ez_t48) (fun _ => rfl) (by decide +kernel)
theorem ez_i49 : ∀ (pc : Nat) (x : ez_I), ez_P0 49 pc = some x → ez_okI () ez_M0 ez_K0 ez_nM 13 49 pc x = true := ez_okG_s (n := 23) (T := ez_t49) (fun _ => rfl) (by decide +kernel)
theorem ez_i50 : ∀ (pc : Nat) (x : ez_I), ez_P0 50 pc = some x → ez_okI () ez_M0 ez_K0 ez_nM 13 50 pc x = true := ez_okG_s (n := 71) (T := ez_t50) (fun _ => rfl) (by decide +kernel)
theorem ez_i51 : ∀ (pc : Nat) (x : ez_I), ez_P0 51 pc = some x → ez_okI () ez_M0 ez_K0 ez_nM 13 51 pc x = true := ez_okG_s (n := 32) (T := ez_t51) (fun _ => rfl) (by decide +kernel)
theorem ez_i52 : ∀ (pc : Nat) (x : ez_I), ez_P0 52 pc = some x → ez_okI () ez_M0 ez_K0 ez_nM 13 52 pc x = true := ez_okG_s (n := 24) (T := ez_t52) (fun _ => rfl) (by decide +kernel)
theorem ez_i53 : ∀ (pc : Nat) (x : ez_I), ez_P0 53 pc = some x → ez_okI () ez_M0 ez_K0 ez_nM 13 53 pc x = true := ez_okG_s (n := 53) (T := ez_t53) (fun _ => rfl) (by decide +kernel)
theorem ez_i54 : ∀ (pc : Nat) (x : ez_I), ez_P0 54 pc = some x → ez_okI () ez_M0 ez_K0 ez_nM 13 54 pc x = true := ez_okG_s (n := 33) (T := ez_t54) (fun _ => rfl) (by decide +kernel)
theorem ez_i55 : ∀ (pc : Nat) (x : ez_I), ez_P0 55 pc = some x → ez_okI () ez_M0 ez_K0 ez_nM 13 55 pc x = true := ez_okG_s (n := 16) (T := ez_t55) (fun _ => rfl) (by decide +kernel)
theorem ez_i56 : ∀ (pc : Nat) (x : ez_I), ez_P0 56 pc = some x → ez_okI () ez_M0 ez_K0 ez_nM 13 56 pc x = true := ez_okG_s (n := 78) (T := ez_t56) (fun _ => rfl) (by decide +kernel)
theorem ez_i57 : ∀ (pc : Nat) (x : ez_I), ez_P0 57 pc = some x → ez_okI () ez_M0 ez_K0 ez_nM 13 57 pc x = true := ez_okG_s (n := 34) (T := ez_t57) (fun _ => rfl) (by decide +kernel)
theorem ez_i58 : ∀ (pc : Nat) (x : ez_I), ez_P0 58 pc = some x → ez_okI () ez_M0 ez_K0 ez_nM 13 58 pc x = true := ez_okG_s (n := 40) (T := ez_t58) (fun _ => rfl) (by decide +kernel)
theorem ez_i59 : ∀ (pc : Nat) (x : ez_I), ez_P0 59 pc = some x → ez_okI () ez_M0 ez_K0 ez_nM 13 59 pc x = true := ez_okG_s (n := 15) (T := ez_t59) (fun _ => rfl) (by decide +kernel)
theorem ez_i60 : ∀ (pc : Nat) (x : ez_I), ez_P0 60 pc = some x → ez_okI () ez_M0 ez_K0 ez_nM 13 60 pc x = true := ez_okG_s (n := 21) (T := ez_t60) (fun _ => rfl) (by decide +kernel)
theorem ez_i61 : ∀ (pc : Nat) (x : ez_I), ez_P0 61 pc = some x → ez_okI () ez_M0 ez_K0 ez_nM 13 61 pc x = true := ez_okG_s (n := 103) (T := ez_t61) (fun _ => rfl) (by decide +kernel)
theorem ez_i62 : ∀ (pc : Nat) (x : ez_I), ez_P0 62 pc = some x → ez_okI () ez_M0 ez_K0 ez_nM 13 62 pc x = true := ez_okG_s (n := 11) (T := ez_t62) (fun _ => rfl) (by decide +kernel)
theorem ez_i63 : ∀ (pc : Nat) (x : ez_I), ez_P0 63 pc = some x → ez_okI () ez_M0 ez_K0 ez_nM 13 63 pc x = true := ez_okG_s (n := 56) (T := ez_t63) (fun _ => rfl) (by decide +kernel)
theorem ez_i64 : ∀ (pc : Nat) (x : ez_I), ez_P0 64 pc = some x → ez_okI () ez_M0 ez_K0 ez_nM 13 64 pc x = true := ez_okG_s (n := 44) (T := ez_t64) (fun _ => rfl) (by decide +kernel)
theorem ez_i65 : ∀ (pc : Nat) (x : ez_I), ez_P0 65 pc = some x → ez_okI () ez_M0 ez_K0 ez_nM 13 65 pc x = true := ez_okG_s (n := 9) (T := ez_t65) (fun _ => rfl) (by decide +kernel)
theorem ez_i66 : ∀ (pc : Nat) (x : ez_I), ez_P0 66 pc = some x → ez_okI () ez_M0 ez_K0 ez_nM 13 66 pc x = true := ez_okG_s (n := 55) (T := ez_t66) (fun _ => rfl) (by decide +kernel)
theorem ez_i67 : ∀ (pc : Nat) (x : ez_I), ez_P0 67 pc = some x → ez_okI () ez_M0 ez_K0 ez_nM 13 67 pc x = true := ez_okG_s (n := 118) (T := ez_t67) (fun _ => rfl) (by decide +kernel)
theorem ez_i68 : ∀ (pc : Nat) (x : ez_I), ez_P0 68 pc = some x → ez_okI () ez_M0 ez_K0 ez_nM 13 68 pc x = true := ez_okG_s (n := 69) (T := ez_t68) (fun _ => rfl) (by decide +kernel)
theorem ez_i69 : ∀ (pc : Nat) (x : ez_I), ez_P0 69 pc = some x → ez_okI () ez_M0 ez_K0 ez_nM 13 69 pc x = true := ez_okG_s (n := 143) (T := ez_t69) (fun _ => rfl) (by decide +kernel)
end
section
/-! checks, on -/
theorem ez_i70 : ∀ (pc : Nat) (x : ez_I), ez_P0 70 pc = some x → ez_okI () ez_M0 ez_K0 ez_nM 13 70 pc x = true := ez_okG_s (n := 110) (T := ez_t70) (fun _ => rfl) (by decide +kernel)
theorem ez_i71 : ∀ (pc : Nat) (x : ez_I), ez_P0 71 pc = some x → ez_okI () ez_M0 ez_K0 ez_nM 13 71 pc x = true := ez_okG_s (n := 35) (T := ez_t71) (fun _ => rfl) (by decide +kernel)
theorem ez_i72 : ∀ (pc : Nat) (x : ez_I), ez_P0 72 pc = some x → ez_okI () ez_M0 ez_K0 ez_nM 13 72 pc x = true := ez_okG_s (n := 24) (T := ez_t72) (fun _ => rfl) (by decide +kernel)
theorem ez_i73 : ∀ (pc : Nat) (x : ez_I), ez_P0 73 pc = some x → ez_okI () ez_M0 ez_K0 ez_nM 13 73 pc x = true := ez_okG_s (n := 14) (T := ez_t73) (fun _ => rfl) (by decide +kernel)
theorem ez_i74 : ∀ (pc : Nat) (x : ez_I), ez_P0 74 pc = some x → ez_okI () ez_M0 ez_K0 ez_nM 13 74 pc x = true := ez_okG_s (n := 84) (T := ez_t74) (fun _ => rfl) (by decide +kernel)
theorem ez_i75 : ∀ (pc : Nat) (x : ez_I), ez_P0 75 pc = some x → ez_okI () ez_M0 ez_K0 ez_nM 13 75 pc x = true := ez_okG_s (n := 56) (T := ez_t75) (fun _ => rfl) (by decide +kernel)
theorem ez_i76 : ∀ (pc : Nat) (x : ez_I), ez_P0 76 pc = some x → ez_okI () ez_M0 ez_K0 ez_nM 13 76 pc x = true := ez_okG_s (n := 43) (T := ez_t76) (fun _ => rfl) (by decide +kernel)
theorem ez_i77 : ∀ (pc : Nat) (x : ez_I), ez_P0 77 pc = some x → ez_okI () ez_M0 ez_K0 ez_nM 13 77 pc x = true := ez_okG_s (n := 30) (T := ez_t77) (fun _ => rfl) (by decide +kernel)
theorem ez_i78 : ∀ (pc : Nat) (x : ez_I), ez_P0 78 pc = some x → ez_okI () ez_M0 ez_K0 ez_nM 13 78 pc x = true := ez_okG_s (n := 29) (T := ez_t78) (fun _ => rfl) (by decide +kernel)
theorem ez_i79 : ∀ (pc : Nat) (x : ez_I), ez_P0 79 pc = some x → ez_okI () ez_M0 ez_K0 ez_nM 13 79 pc x = true := ez_okG_s (n := 88) (T := ez_t79) (fun _ => rfl) (by decide +kernel)
theorem ez_i80 : ∀ (pc : Nat) (x : ez_I), ez_P0 80 pc = some x → ez_okI () ez_M0 ez_K0 ez_nM 13 80 pc x = true := ez_okG_s (n := 58) (T := ez_t80) (fun _ => rfl) (by decide +kernel)
theorem ez_i81 : ∀ (pc : Nat) (x : ez_I), ez_P0 81 pc = some x → ez_okI () ez_M0 ez_K0 ez_nM 13 81 pc x = true := ez_okG_s (n := 20) (T := ez_t81) (fun _ => rfl) (by decide +kernel)
theorem ez_i82 : ∀ (pc : Nat) (x : ez_I), ez_P0 82 pc = some x → ez_okI () ez_M0 ez_K0 ez_nM 13 82 pc x = true := ez_okG_s (n := 33) (T := ez_t82) (fun _ => rfl) (by decide +kernel)
theorem ez_i83 : ∀ (pc : Nat) (x : ez_I), ez_P0 83 pc = some x → ez_okI () ez_M0 ez_K0 ez_nM 13 83 pc x = true := ez_okG_s (n := 57) (T := ez_t83) (fun _ => rfl) (by decide +kernel)
theorem ez_i84 : ∀ (pc : Nat) (x : ez_I), ez_P0 84 pc = some x → ez_okI () ez_M0 ez_K0 ez_nM 13 84 pc x = true := ez_okG_s (n := 26) (T := ez_t84) (fun _ => rfl) (by decide +kernel)
theorem ez_i85 : ∀ (pc : Nat) (x : ez_I), ez_P0 85 pc = some x → ez_okI () ez_M0 ez_K0 ez_nM 13 85 pc x = true := ez_okG_s (n := 94) (T := ez_t85) (fun _ => rfl) (by decide +kernel)
theorem ez_i86 : ∀ (pc : Nat) (x : ez_I), ez_P0 86 pc = some x → ez_okI () ez_M0 ez_K0 ez_nM 13 86 pc x = true := ez_okG_s (n := 40) (T := ez_t86) (fun _ => rfl) (by decide +kernel)
theorem ez_i87 : ∀ (pc : Nat) (x : ez_I), ez_P0 87 pc = some x → ez_okI () ez_M0 ez_K0 ez_nM 13 87 pc x = true := ez_okG_s (n := 44) (T := ez_t87) (fun _ => rfl) (by decide +kernel)
theorem ez_i88 : ∀ (pc : Nat) (x : ez_I), ez_P0 88 pc = some x → ez_okI () ez_M0 ez_K0 ez_nM 13 88 pc x = true := ez_okG_s (n := 6) (T := ez_t88) (fun _ => rfl) (by decide +kernel)
theorem ez_i89 : ∀ (pc : Nat) (x : ez_I), ez_P0 89 pc = some x → ez_okI () ez_M0 ez_K0 ez_nM 13 89 pc x = true := ez_okG_s (n := 18) (T := ez_t89) (fun _ => rfl) (by decide +kernel)
theorem ez_i90 : ∀ (pc : Nat) (x : ez_I), ez_P0 90 pc = some x → ez_okI () ez_M0 ez_K0 ez_nM 13 90 pc x = true := ez_okG_s (n := 30) (T := ez_t90) (fun _ => rfl) (by decide +kernel)
theorem ez_i91 : ∀ (pc : Nat) (x : ez_I), ez_P0 91 pc = some x → ez_okI () ez_M0 ez_K0 ez_nM 13 91 pc x = true := ez_okG_s (n := 165) (T := ez_t91) (fun _ => rfl) (by decide +kernel)
theorem ez_i92 : ∀ (pc : Nat) (x : ez_I), ez_P0 92 pc = some x → ez_okI () ez_M0 ez_K0 ez_nM 13 92 pc x = true := ez_okG_s (n := 70) (T := ez_t92) (fun _ => rfl) (by decide +kernel)
theorem ez_i93 : ∀ (pc : Nat) (x : ez_I), ez_P0 93 pc = some x → ez_okI () ez_M0 ez_K0 ez_nM 13 93 pc x = true := ez_okG_s (n := 40) (T := ez_t93) (fun _ => rfl) (by decide +kernel)
theorem ez_i94 : ∀ (pc : Nat) (x : ez_I), ez_P0 94 pc = some x → ez_okI () ez_M0 ez_K0 ez_nM 13 94 pc x = true := ez_okG_s (n := 21) (T := ez_t94) (fun _ => rfl) (by decide +kernel)
theorem ez_i95 : ∀ (pc : Nat) (x : ez_I), ez_P0 95 pc = some x → ez_okI () ez_M0 ez_K0 ez_nM 13 95 pc x = true := ez_okG_s (n := 26) (T := ez_t95) (fun _ => rfl) (by decide +kernel)
theorem ez_i96 : ∀ (pc : Nat) (x : ez_I), ez_P0 96 pc = some x → ez_okI () ez_M0 ez_K0 ez_nM 13 96 pc x = true := ez_okG_s (n := 99) (T := ez_t96) (fun _ => rfl) (by decide +kernel)
theorem ez_i97 : ∀ (pc : Nat) (x : ez_I), ez_P0 97 pc = some x → ez_okI () ez_M0 ez_K0 ez_nM 13 97 pc x = true := ez_okG_s (n := 7) (T := ez_t97) (fun _ => rfl) (by decide +kernel)
theorem ez_i98 : ∀ (pc : Nat) (x : ez_I), ez_P0 98 pc = some x → ez_okI () ez_M0 ez_K0 ez_nM 13 98 pc x = true := ez_okG_s (n := 85) (T := ez_t98) (fun _ => rfl) (by decide +kernel)
theorem ez_i99 : ∀ (pc : Nat) (x : ez_I), ez_P0 99 pc = some x → ez_okI () ez_M0 ez_K0 ez_nM 13 99 pc x = true := ez_okG_s (n := 10) (T := ez_t99) (fun _ => rfl) (by decide +kernel)
theorem ez_i100 : ∀ (pc : Nat) (x : ez_I), ez_P0 100 pc = some x → ez_okI () ez_M0 ez_K0 ez_nM 13 100 pc x = true := ez_okG_s (n := 56) (T := ez_t100) (fun _ => rfl) (by decide +kernel)
theorem ez_i101 : ∀ (pc : Nat) (x : ez_I), ez_P0 101 pc = some x → ez_okI () ez_M0 ez_K0 ez_nM 13 101 pc x = true := ez_okG_s (n := 118) (T := ez_t101) (fun _ => rfl) (by decide +kernel)
theorem ez_i102 : ∀ (pc : Nat) (x : ez_I), ez_P0 102 pc = some x → ez_okI () ez_M0 ez_K0 ez_nM 13 102 pc x = true := ez_okG_s (n := 29) (T := ez_t102) (fun _ => rfl) (by decide +kernel)
theorem ez_i103 : ∀ (pc : Nat) (x : ez_I), ez_P0 103 pc = some x → ez_okI () ez_M0 ez_K0 ez_nM 13 103 pc x = true := ez_okG_s (n := 53) (T := ez_t103) (fun _ => rfl) (by decide +kernel)
theorem ez_i104 : ∀ (pc : Nat) (x : ez_I), ez_P0 104 pc = some x → ez_okI () ez_M0 ez_K0 ez_nM 13 104 pc x = true := ez_okG_s (n := 58) (T := ez_t104) (fun _ => rfl) (by decide +kernel)
theorem ez_i105 : ∀ (pc : Nat) (x : ez_I), ez_P0 105 pc = some x → ez_okI () ez_M0 ez_K0 ez_nM 13 105 pc x = true := ez_okG_s (n := 71) (T := ez_t105) (fun _ => rfl) (by decide +kernel)
theorem ez_i106 : ∀ (pc : Nat) (x : ez_I), ez_P0 106 pc = some x → ez_okI () ez_M0 ez_K0 ez_nM 13 106 pc x = true := ez_okG_s (n := 6) (T := ez_t106) (fun _ => rfl) (by decide +kernel)
theorem ez_i107 : ∀ (pc : Nat) (x : ez_I), ez_P0 107 pc = some x → ez_okI () ez_M0 ez_K0 ez_nM 13 107 pc x = true := ez_okG_s (n := 6) (T := ez_t107) (fun _ => rfl) (by decide +kernel)
theorem ez_i108 : ∀ (pc : Nat) (x : ez_I), ez_P0 108 pc = some x → ez_okI () ez_M0 ez_K0 ez_nM 13 108 pc x = true := ez_okG_s (n := 50) (T := ez_t108) (fun _ => rfl) (by decide +kernel)
theorem ez_i109 : ∀ (pc : Nat) (x : ez_I), ez_P0 109 pc = some x → ez_okI () ez_M0 ez_K0 ez_nM 13 109 pc x = true := ez_okG_s (n := 25) (T := ez_t109) (fun _ => rfl) (by decide +kernel)
theorem ez_i110 : ∀ (pc : Nat) (x : ez_I), ez_P0 110 pc = some x → ez_okI () ez_M0 ez_K0 ez_nM 13 110 pc x = true := ez_okG_s (n := 41) (T := ez_t110) (fun _ => rfl) (by decide +kernel)
theorem ez_i111 : ∀ (pc : Nat) (x : ez_I), ez_P0 111 pc = some x → ez_okI () ez_M0 ez_K0 ez_nM 13 111 pc x = true := ez_okG_s (n := 9) (T := ez_t111) (fun _ => rfl) (by decide +kernel)
theorem ez_i112 : ∀ (pc : Nat) (x : ez_I), ez_P0 112 pc = some x → ez_okI () ez_M0 ez_K0 ez_nM 13 112 pc x = true := ez_okG_s (n := 123) (T := ez_t112) (fun _ => rfl) (by decide +kernel)
theorem ez_i113 : ∀ (pc : Nat) (x : ez_I), ez_P0 113 pc = some x → ez_okI () ez_M0 ez_K0 ez_nM 13 113 pc x = true := ez_okG_s (n := 31) (T := ez_t113) (fun _ => rfl) (by decide +kernel)
theorem ez_i114 : ∀ (pc : Nat) (x : ez_I), ez_P0 114 pc = some x → ez_okI () ez_M0 ez_K0 ez_nM 13 114 pc x = true := ez_okG_s (n := 24) (T := ez_t114) (fun _ => rfl) (by decide +kernel)
theorem ez_i115 : ∀ (pc : Nat) (x : ez_I), ez_P0 115 pc = some x → ez_okI () ez_M0 ez_K0 ez_nM 13 115 pc x = true := ez_okG_s (n := 67) (T := ez_t115) (fun _ => rfl) (by decide +kernel)
theorem ez_i116 : ∀ (pc : Nat) (x : ez_I), ez_P0 116 pc = some x → ez_okI () ez_M0 ez_K0 ez_nM 13 116 pc x = true := ez_okG_s (n := 105) (T := ez_t116) (fun _ => rfl) (by decide +kernel)
theorem ez_i117 : ∀ (pc : Nat) (x : ez_I), ez_P0 117 pc = some x → ez_okI () ez_M0 ez_K0 ez_nM 13 117 pc x = true := ez_okG_s (n := 6) (T := ez_t117) (fun _ => rfl) (by decide +kernel)
theorem ez_i118 : ∀ (pc : Nat) (x : ez_I), ez_P0 118 pc = some x → ez_okI () ez_M0 ez_K0 ez_nM 13 118 pc x = true := ez_okG_s (n := 54) (T := ez_t118) (fun _ => rfl) (by decide +kernel)
theorem ez_i119 : ∀ (pc : Nat) (x : ez_I), ez_P0 119 pc = some x → ez_okI () ez_M0 ez_K0 ez_nM 13 119 pc x = true := ez_okG_s (n := 94) (T := ez_t119) (fun _ => rfl) (by decide +kernel)
theorem ez_i120 : ∀ (pc : Nat) (x : ez_I), ez_P0 120 pc = some x → ez_okI () ez_M0 ez_K0 ez_nM 13 120 pc x = true := ez_okG_s (n := 13) (T := ez_t120) (fun _ => rfl) (by decide +kernel)
theorem ez_i121 : ∀ (pc : Nat) (x : ez_I), ez_P0 121 pc = some x → ez_okI () ez_M0 ez_K0 ez_nM 13 121 pc x = true := ez_okG_s (n := 29) (T := ez_t121) (fun _ => rfl) (by decide +kernel)
theorem ez_i122 : ∀ (pc : Nat) (x : ez_I), ez_P0 122 pc = some x → ez_okI () ez_M0 ez_K0 ez_nM 13 122 pc x = true := ez_okG_s (n := 16) (T := ez_t122) (fun _ => rfl) (by decide +kernel)
theorem ez_i123 : ∀ (pc : Nat) (x : ez_I), ez_P0 123 pc = some x → ez_okI () ez_M0 ez_K0 ez_nM 13 123 pc x = true := ez_okG_s (n := 26) (T := ez_t123) (fun _ => rfl) (by decide +kernel)
theorem ez_i124 : ∀ (pc : Nat) (x : ez_I), ez_P0 124 pc = some x → ez_okI () ez_M0 ez_K0 ez_nM 13 124 pc x = true := ez_okG_s (n := 9) (T := ez_t124) (fun _ => rfl) (by decide +kernel)
theorem ez_i125 : ∀ (pc : Nat) (x : ez_I), ez_P0 125 pc = some x → ez_okI () ez_M0 ez_K0 ez_nM 13 125 pc x = true := ez_okG_s (n := 35) (T := ez_t125) (fun _ => rfl) (by decide +kernel)
theorem ez_i126 : ∀ (pc : Nat) (x : ez_I), ez_P0 126 pc = some x → ez_okI () ez_M0 ez_K0 ez_nM 13 126 pc x = true := ez_okG_s (n := 31) (T := ez_t126) (fun _ => rfl) (by decide +kernel)
theorem ez_i127 : ∀ (pc : Nat) (x : ez_I), ez_P0 127 pc = some x → ez_okI () ez_M0 ez_K0 ez_nM 13 127 pc x = true := ez_okG_s (n := 39) (T := ez_t127) (fun _ => rfl) (by decide +kernel)
theorem ez_i128 : ∀ (pc : Nat) (x : ez_I), ez_P0 128 pc = some x → ez_okI () ez_M0 ez_K0 ez_nM 13 128 pc x = true := ez_okG_s (n := 40) (T := ez_t128) (fun _ => rfl) (by decide +kernel)
theorem ez_i129 : ∀ (pc : Nat) (x : ez_I), ez_P0 129 pc = some x → ez_okI () ez_M0 ez_K0 ez_nM 13 129 pc x = true := ez_okG_s (n := 27) (T := ez_t129) (fun _ => rfl) (by decide +kernel)
theorem ez_i130 : ∀ (pc : Nat) (x : ez_I), ez_P0 130 pc = some x → ez_okI () ez_M0 ez_K0 ez_nM 13 130 pc x = true := ez_okG_s (n := 150) (T := ez_t130) (fun _ => rfl) (by decide +kernel)
theorem ez_i131 : ∀ (pc : Nat) (x : ez_I), ez_P0 131 pc = some x → ez_okI () ez_M0 ez_K0 ez_nM 13 131 pc x = true := ez_okG_s (n := 66) (T := ez_t131) (fun _ => rfl) (by decide +kernel)
theorem ez_i132 : ∀ (pc : Nat) (x : ez_I), ez_P0 132 pc = some x → ez_okI () ez_M0 ez_K0 ez_nM 13 132 pc x = true := ez_okG_s (n := 54) (T := ez_t132) (fun _ => rfl) (by decide +kernel)
theorem ez_i133 : ∀ (pc : Nat) (x : ez_I), ez_P0 133 pc = some x → ez_okI () ez_M0 ez_K0 ez_nM 13 133 pc x = true := ez_okG_s (n := 9) (T := ez_t133) (fun _ => rfl) (by decide +kernel)
theorem ez_i134 : ∀ (pc : Nat) (x : ez_I), ez_P0 134 pc = some x → ez_okI () ez_M0 ez_K0 ez_nM 13 134 pc x = true := ez_okG_s (n := 44) (T := ez_t134) (fun _ => rfl) (by decide +kernel)
theorem ez_i135 : ∀ (pc : Nat) (x : ez_I), ez_P0 135 pc = some x → ez_okI () ez_M0 ez_K0 ez_nM 13 135 pc x = true := ez_okG_s (n := 145) (T := ez_t135) (fun _ => rfl) (by decide +kernel)
theorem ez_i136 : ∀ (pc : Nat) (x : ez_I), ez_P0 136 pc = some x → ez_okI () ez_M0 ez_K0 ez_nM 13 136 pc x = true := ez_okG_s (n := 22) (T := ez_t136) (fun _ => rfl) (by decide +kernel)
theorem ez_i137 : ∀ (pc : Nat) (x : ez_I), ez_P0 137 pc = some x → ez_okI () ez_M0 ez_K0 ez_nM 13 137 pc x = true := ez_okG_s (n := 39) (T := ez_t137) (fun _ => rfl) (by decide +kernel)
theorem ez_i138 : ∀ (pc : Nat) (x : ez_I), ez_P0 138 pc = some x → ez_okI () ez_M0 ez_K0 ez_nM 13 138 pc x = true := ez_okG_s (n := 9) (T := ez_t138) (fun _ => rfl) (by decide +kernel)
theorem ez_i139 : ∀ (pc : Nat) (x : ez_I), ez_P0 139 pc = some x → ez_okI () ez_M0 ez_K0 ez_nM 13 139 pc x = true := ez_okG_s (n := 6) (T := ez_t139) (fun _ => rfl) (by decide +kernel)
end
section
/-! checks, on -/
theorem ez_i140 : ∀ (pc : Nat) (x : ez_I), ez_P0 140 pc = some x → ez_okI () ez_M0 ez_K0 ez_nM 13 140 pc x = true := ez_okG_s (n := 101) (T := ez_t140) (fun _ => rfl) (by decide +kernel)
theorem ez_i141 : ∀ (pc : Nat) (x : ez_I), ez_P0 141 pc = some x → ez_okI () ez_M0 ez_K0 ez_nM 13 141 pc x = true := ez_okG_s (n := 70) (T := ez_t141) (fun _ => rfl) (by decide +kernel)
theorem ez_i142 : ∀ (pc : Nat) (x : ez_I), ez_P0 142 pc = some x → ez_okI () ez_M0 ez_K0 ez_nM 13 142 pc x = true := ez_okG_s (n := 72) (T := ez_t142) (fun _ => rfl) (by decide +kernel)
theorem ez_i143 : ∀ (pc : Nat) (x : ez_I), ez_P0 143 pc = some x → ez_okI () ez_M0 ez_K0 ez_nM 13 143 pc x = true := ez_okG_s (n := 28) (T := ez_t143) (fun _ => rfl) (by decide +kernel)
theorem ez_i144 : ∀ (pc : Nat) (x : ez_I), ez_P0 144 pc = some x → ez_okI () ez_M0 ez_K0 ez_nM 13 144 pc x = true := ez_okG_s (n := 64) (T := ez_t144) (fun _ => rfl) (by decide +kernel)
theorem ez_i145 : ∀ (pc : Nat) (x : ez_I), ez_P0 145 pc = some x → ez_okI () ez_M0 ez_K0 ez_nM 13 145 pc x = true := ez_okG_s (n := 92) (T := ez_t145) (fun _ => rfl) (by decide +kernel)
theorem ez_i146 : ∀ (pc : Nat) (x : ez_I), ez_P0 146 pc = some x → ez_okI () ez_M0 ez_K0 ez_nM 13 146 pc x = true := ez_okG_s (n := 20) (T := ez_t146) (fun _ => rfl) (by decide +kernel)
theorem ez_i147 : ∀ (pc : Nat) (x : ez_I), ez_P0 147 pc = some x → ez_okI () ez_M0 ez_K0 ez_nM 13 147 pc x = true := ez_okG_s (n := 80) (T := ez_t147) (fun _ => rfl) (by decide +kernel)
theorem ez_i148 : ∀ (pc : Nat) (x : ez_I), ez_P0 148 pc = some x → ez_okI () ez_M0 ez_K0 ez_nM 13 148 pc x = true := ez_okG_s (n := 77) (T := ez_t148) (fun _ => rfl) (by decide +kernel)
theorem ez_i149 : ∀ (pc : Nat) (x : ez_I), ez_P0 149 pc = some x → ez_okI () ez_M0 ez_K0 ez_nM 13 149 pc x = true := ez_okG_s (n := 131) (T := ez_t149) (fun _ => rfl) (by decide +kernel)
theorem ez_i150 : ∀ (pc : Nat) (x : ez_I), ez_P0 150 pc = some x → ez_okI () ez_M0 ez_K0 ez_nM 13 150 pc x = true := ez_okG_s (n := 36) (T := ez_t150) (fun _ => rfl) (by decide +kernel)
theorem ez_i151 : ∀ (pc : Nat) (x : ez_I), ez_P0 151 pc = some x → ez_okI () ez_M0 ez_K0 ez_nM 13 151 pc x = true := ez_okG_s (n := 10) (T := ez_t151) (fun _ => rfl) (by decide +kernel)
theorem ez_i152 : ∀ (pc : Nat) (x : ez_I), ez_P0 152 pc = some x → ez_okI () ez_M0 ez_K0 ez_nM 13 152 pc x = true := ez_okG_s (n := 9) (T := ez_t152) (fun _ => rfl) (by decide +kernel)
theorem ez_i153 : ∀ (pc : Nat) (x : ez_I), ez_P0 153 pc = some x → ez_okI () ez_M0 ez_K0 ez_nM 13 153 pc x = true := ez_okG_s (n := 11) (T := ez_t153) (fun _ => rfl) (by decide +kernel)
theorem ez_i154 : ∀ (pc : Nat) (x : ez_I), ez_P0 154 pc = some x → ez_okI () ez_M0 ez_K0 ez_nM 13 154 pc x = true := ez_okG_s (n := 21) (T := ez_t154) (fun _ => rfl) (by decide +kernel)
theorem ez_i155 : ∀ (pc : Nat) (x : ez_I), ez_P0 155 pc = some x → ez_okI () ez_M0 ez_K0 ez_nM 13 155 pc x = true := ez_okG_s (n := 21) (T := ez_t155) (fun _ => rfl) (by decide +kernel)
theorem ez_i156 : ∀ (pc : Nat) (x : ez_I), ez_P0 156 pc = some x → ez_okI () ez_M0 ez_K0 ez_nM 13 156 pc x = true := ez_okG_s (n := 27) (T := ez_t156) (fun _ => rfl) (by decide +kernel)
theorem ez_i157 : ∀ (pc : Nat) (x : ez_I), ez_P0 157 pc = some x → ez_okI () ez_M0 ez_K0 ez_nM 13 157 pc x = true := ez_okG_s (n := 32) (T := ez_t157) (fun _ => rfl) (by decide +kernel)
theorem ez_i158 : ∀ (pc : Nat) (x : ez_I), ez_P0 158 pc = some x → ez_okI () ez_M0 ez_K0 ez_nM 13 158 pc x = true := ez_okG_s (n := 39) (T := ez_t158) (fun _ => rfl) (by decide +kernel)
theorem ez_i159 : ∀ (pc : Nat) (x : ez_I), ez_P0 159 pc = some x → ez_okI () ez_M0 ez_K0 ez_nM 13 159 pc x = true := ez_okG_s (n := 38) (T := ez_t159) (fun _ => rfl) (by decide +kernel)
theorem ez_i160 : ∀ (pc : Nat) (x : ez_I), ez_P0 160 pc = some x → ez_okI () ez_M0 ez_K0 ez_nM 13 160 pc x = true := ez_okG_s (n := 51) (T := ez_t160) (fun _ => rfl) (by decide +kernel)
theorem ez_i161 : ∀ (pc : Nat) (x : ez_I), ez_P0 161 pc = some x → ez_okI () ez_M0 ez_K0 ez_nM 13 161 pc x = true := ez_okG_s (n := 25) (T := ez_t161) (fun _ => rfl) (by decide +kernel)
theorem ez_i162 : ∀ (pc : Nat) (x : ez_I), ez_P0 162 pc = some x → ez_okI () ez_M0 ez_K0 ez_nM 13 162 pc x = true := ez_okG_s (n := 52) (T := ez_t162) (fun _ => rfl) (by decide +kernel)
theorem ez_i163 : ∀ (pc : Nat) (x : ez_I), ez_P0 163 pc = some x → ez_okI () ez_M0 ez_K0 ez_nM 13 163 pc x = true := ez_okG_s (n := 9) (T := ez_t163) (fun _ => rfl) (by decide +kernel)
theorem ez_i164 : ∀ (pc : Nat) (x : ez_I), ez_P0 164 pc = some x → ez_okI () ez_M0 ez_K0 ez_nM 13 164 pc x = true := ez_okG_s (n := 282) (T := ez_t164) (fun _ => rfl) (by decide +kernel)
theorem ez_i165 : ∀ (pc : Nat) (x : ez_I), ez_P0 165 pc = some x → ez_okI () ez_M0 ez_K0 ez_nM 13 165 pc x = true := ez_okG_s (n := 194) (T := ez_t165) (fun _ => rfl) (by decide +kernel)
theorem ez_i166 : ∀ (pc : Nat) (x : ez_I), ez_P0 166 pc = some x → ez_okI () ez_M0 ez_K0 ez_nM 13 166 pc x = true := ez_okG_s (n := 42) (T := ez_t166) (fun _ => rfl) (by decide +kernel)
theorem ez_i167 : ∀ (pc : Nat) (x : ez_I), ez_P0 167 pc = some x → ez_okI () ez_M0 ez_K0 ez_nM 13 167 pc x = true := ez_okG_s (n := 312) (T := ez_t167) (fun _ => rfl) (by decide +kernel)
theorem ez_i168 : ∀ (pc : Nat) (x : ez_I), ez_P0 168 pc = some x → ez_okI () ez_M0 ez_K0 ez_nM 13 168 pc x = true := ez_okG_s (n := 25) (T := ez_t168) (fun _ => rfl) (by decide +kernel)
theorem ez_i169 : ∀ (pc : Nat) (x : ez_I), ez_P0 169 pc = some x → ez_okI () ez_M0 ez_K0 ez_nM 13 169 pc x = true := ez_okG_s (n := 104) (T := ez_t169) (fun _ => rfl) (by decide +kernel)
theorem ez_i170 : ∀ (pc : Nat) (x : ez_I), ez_P0 170 pc = some x → ez_okI () ez_M0 ez_K0 ez_nM 13 170 pc x = true := ez_okG_s (n := 190) (T := ez_t170) (fun _ => rfl) (by decide +kernel)
theorem ez_i171 : ∀ (pc : Nat) (x : ez_I), ez_P0 171 pc = some x → ez_okI () ez_M0 ez_K0 ez_nM 13 171 pc x = true := ez_okG_s (n := 34) (T := ez_t171) (fun _ => rfl) (by decide +kernel)
theorem ez_i172 : ∀ (pc : Nat) (x : ez_I), ez_P0 172 pc = some x → ez_okI () ez_M0 ez_K0 ez_nM 13 172 pc x = true := ez_okG_s (n := 17) (T := ez_t172) (fun _ => rfl) (by decide +kernel)
theorem ez_i173 : ∀ (pc : Nat) (x : ez_I), ez_P0 173 pc = some x → ez_okI () ez_M0 ez_K0 ez_nM 13 173 pc x = true := ez_okG_s (n := 50) (T := ez_t173) (fun _ => rfl) (by decide +kernel)
theorem ez_i174 : ∀ (pc : Nat) (x : ez_I), ez_P0 174 pc = some x → ez_okI () ez_M0 ez_K0 ez_nM 13 174 pc x = true := ez_okG_s (n := 111) (T := ez_t174) (fun _ => rfl) (by decide +kernel)
theorem ez_i175 : ∀ (pc : Nat) (x : ez_I), ez_P0 175 pc = some x → ez_okI () ez_M0 ez_K0 ez_nM 13 175 pc x = true := ez_okG_s (n := 70) (T := ez_t175) (fun _ => rfl) (by decide +kernel)
theorem ez_i176 : ∀ (pc : Nat) (x : ez_I), ez_P0 176 pc = some x → ez_okI () ez_M0 ez_K0 ez_nM 13 176 pc x = true := ez_okG_s (n := 82) (T := ez_t176) (fun _ => rfl) (by decide +kernel)
theorem ez_i177 : ∀ (pc : Nat) (x : ez_I), ez_P0 177 pc = some x → ez_okI () ez_M0 ez_K0 ez_nM 13 177 pc x = true := ez_okG_s (n := 176) (T := ez_t177) (fun _ => rfl) (by decide +kernel)
theorem ez_i178 : ∀ (pc : Nat) (x : ez_I), ez_P0 178 pc = some x → ez_okI () ez_M0 ez_K0 ez_nM 13 178 pc x = true := ez_okG_s (n := 48) (T := ez_t178) (fun _ => rfl) (by decide +kernel)
theorem ez_i179 : ∀ (pc : Nat) (x : ez_I), ez_P0 179 pc = some x → ez_okI () ez_M0 ez_K0 ez_nM 13 179 pc x = true := ez_okG_s (n := 10) (T := ez_t179) (fun _ => rfl) (by decide +kernel)
theorem ez_i180 : ∀ (pc : Nat) (x : ez_I), ez_P0 180 pc = some x → ez_okI () ez_M0 ez_K0 ez_nM 13 180 pc x = true := ez_okG_s (n := 48) (T := ez_t180) (fun _ => rfl) (by decide +kernel)
theorem ez_i181 : ∀ (pc : Nat) (x : ez_I), ez_P0 181 pc = some x → ez_okI () ez_M0 ez_K0 ez_nM 13 181 pc x = true := ez_okG_s (n := 248) (T := ez_t181) (fun _ => rfl) (by decide +kernel)
theorem ez_i182 : ∀ (pc : Nat) (x : ez_I), ez_P0 182 pc = some x → ez_okI () ez_M0 ez_K0 ez_nM 13 182 pc x = true := ez_okG_s (n := 52) (T := ez_t182) (fun _ => rfl) (by decide +kernel)
theorem ez_i183 : ∀ (pc : Nat) (x : ez_I), ez_P0 183 pc = some x → ez_okI () ez_M0 ez_K0 ez_nM 13 183 pc x = true := ez_okG_s (n := 98) (T := ez_t183) (fun _ => rfl) (by decide +kernel)
theorem ez_i184 : ∀ (pc : Nat) (x : ez_I), ez_P0 184 pc = some x → ez_okI () ez_M0 ez_K0 ez_nM 13 184 pc x = true := ez_okG_s (n := 94) (T := ez_t184) (fun _ => rfl) (by decide +kernel)
theorem ez_i185 : ∀ (pc : Nat) (x : ez_I), ez_P0 185 pc = some x → ez_okI () ez_M0 ez_K0 ez_nM 13 185 pc x = true := ez_okG_s (n := 49) (T := ez_t185) (fun _ => rfl) (by decide +kernel)
theorem ez_i186 : ∀ (pc : Nat) (x : ez_I), ez_P0 186 pc = some x → ez_okI () ez_M0 ez_K0 ez_nM 13 186 pc x = true := ez_okG_s (n := 148) (T := ez_t186) (fun _ => rfl) (by decide +kernel)
theorem ez_i187 : ∀ (pc : Nat) (x : ez_I), ez_P0 187 pc = some x → ez_okI () ez_M0 ez_K0 ez_nM 13 187 pc x = true := ez_okG_s (n := 197) (T := ez_t187) (fun _ => rfl) (by decide +kernel)
theorem ez_i188 : ∀ (pc : Nat) (x : ez_I), ez_P0 188 pc = some x → ez_okI () ez_M0 ez_K0 ez_nM 13 188 pc x = true := ez_okG_s (n := 147) (T := ez_t188) (fun _ => rfl) (by decide +kernel)
theorem ez_i189 : ∀ (pc : Nat) (x : ez_I), ez_P0 189 pc = some x → ez_okI () ez_M0 ez_K0 ez_nM 13 189 pc x = true := ez_okG_s (n := 263) (T := ez_t189) (fun _ => rfl) (by decide +kernel)
theorem ez_i190 : ∀ (pc : Nat) (x : ez_I), ez_P0 190 pc = some x → ez_okI () ez_M0 ez_K0 ez_nM 13 190 pc x = true := ez_okG_s (n := 302) (T := ez_t190) (fun _ => rfl) (by decide +kernel)
theorem ez_i191 : ∀ (pc : Nat) (x : ez_I), ez_P0 191 pc = some x → ez_okI () ez_M0 ez_K0 ez_nM 13 191 pc x = true := ez_okG_s (n := 115) (T := ez_t191) (fun _ => rfl) (by decide +kernel)
theorem ez_i192 : ∀ (pc : Nat) (x : ez_I), ez_P0 192 pc = some x → ez_okI () ez_M0 ez_K0 ez_nM 13 192 pc x = true := ez_okG_s (n := 104) (T := ez_t192) (fun _ => rfl) (by decide +kernel)
theorem ez_i193 : ∀ (pc : Nat) (x : ez_I), ez_P0 193 pc = some x → ez_okI () ez_M0 ez_K0 ez_nM 13 193 pc x = true := ez_okG_s (n := 148) (T := ez_t193) (fun _ => rfl) (by decide +kernel)
theorem ez_i194 : ∀ (pc : Nat) (x : ez_I), ez_P0 194 pc = some x → ez_okI () ez_M0 ez_K0 ez_nM 13 194 pc x = true := ez_okG_s (n := 120) (T := ez_t194) (fun _ => rfl) (by decide +kernel)
theorem ez_i195 : ∀ (pc : Nat) (x : ez_I), ez_P0 195 pc = some x → ez_okI () ez_M0 ez_K0 ez_nM 13 195 pc x = true := ez_okG_s (n := 95) (T := ez_t195) (fun _ => rfl) (by decide +kernel)
theorem ez_i196 : ∀ (pc : Nat) (x : ez_I), ez_P0 196 pc = some x → ez_okI () ez_M0 ez_K0 ez_nM 13 196 pc x = true := ez_okG_s (n := 127) (T := ez_t196) (fun _ => rfl) (by decide +kernel)
theorem ez_i197 : ∀ (pc : Nat) (x : ez_I), ez_P0 197 pc = some x → ez_okI () ez_M0 ez_K0 ez_nM 13 197 pc x = true := ez_okG_s (n := 16) (T := ez_t197) (fun _ => rfl) (by decide +kernel)
theorem ez_i198 : ∀ (pc : Nat) (x : ez_I), ez_P0 198 pc = some x → ez_okI () ez_M0 ez_K0 ez_nM 13 198 pc x = true := ez_okG_s (n := 19) (T := ez_t198) (fun _ => rfl) (by decide +kernel)
theorem ez_i199 : ∀ (pc : Nat) (x : ez_I), ez_P0 199 pc = some x → ez_okI () ez_M0 ez_K0 ez_nM 13 199 pc x = true := ez_okG_s (n := 14) (T := ez_t199) (fun _ => rfl) (by decide +kernel)
theorem ez_i200 : ∀ (pc : Nat) (x : ez_I), ez_P0 200 pc = some x → ez_okI () ez_M0 ez_K0 ez_nM 13 200 pc x = true := ez_okG_s (n := 14) (T := ez_t200) (fun _ => rfl) (by decide +kernel)
theorem ez_i201 : ∀ (pc : Nat) (x : ez_I), ez_P0 201 pc = some x → ez_okI () ez_M0 ez_K0 ez_nM 13 201 pc x = true := ez_okG_s (n := 23) (T := ez_t201) (fun _ => rfl) (by decide +kernel)
theorem ez_i202 : ∀ (pc : Nat) (x : ez_I), ez_P0 202 pc = some x → ez_okI () ez_M0 ez_K0 ez_nM 13 202 pc x = true := ez_okG_s (n := 14) (T := ez_t202) (fun _ => rfl) (by decide +kernel)
theorem ez_i203 : ∀ (pc : Nat) (x : ez_I), ez_P0 203 pc = some x → ez_okI () ez_M0 ez_K0 ez_nM 13 203 pc x = true := ez_okG_s (n := 19) (T := ez_t203) (fun _ => rfl) (by decide +kernel)
theorem ez_i204 : ∀ (pc : Nat) (x : ez_I), ez_P0 204 pc = some x → ez_okI () ez_M0 ez_K0 ez_nM 13 204 pc x = true := ez_okG_s (n := 14) (T := ez_t204) (fun _ => rfl) (by decide +kernel)
theorem ez_i205 : ∀ (pc : Nat) (x : ez_I), ez_P0 205 pc = some x → ez_okI () ez_M0 ez_K0 ez_nM 13 205 pc x = true := ez_okG_s (n := 45) (T := ez_t205) (fun _ => rfl) (by decide +kernel)
theorem ez_i206 : ∀ (pc : Nat) (x : ez_I), ez_P0 206 pc = some x → ez_okI () ez_M0 ez_K0 ez_nM 13 206 pc x = true := ez_okG_s (n := 17) (T := ez_t206) (fun _ => rfl) (by decide +kernel)
theorem ez_i207 : ∀ (pc : Nat) (x : ez_I), ez_P0 207 pc = some x → ez_okI () ez_M0 ez_K0 ez_nM 13 207 pc x = true := ez_okG_s (n := 17) (T := ez_t207) (fun _ => rfl) (by decide +kernel)
theorem ez_i208 : ∀ (pc : Nat) (x : ez_I), ez_P0 208 pc = some x → ez_okI () ez_M0 ez_K0 ez_nM 13 208 pc x = true := ez_okG_s (n := 66) (T := ez_t208) (fun _ => rfl) (by decide +kernel)
theorem ez_i209 : ∀ (pc : Nat) (x : ez_I), ez_P0 209 pc = some x → ez_okI () ez_M0 ez_K0 ez_nM 13 209 pc x = true := ez_okG_s (n := 33) (T := ez_t209) (fun _ => rfl) (by decide +kernel)
end
section
/-! checks, on -/
theorem ez_i210 : ∀ (pc : Nat) (x : ez_I), ez_P0 210 pc = some x → ez_okI () ez_M0 ez_K0 ez_nM 13 210 pc x = true := ez_okG_s (n := 131) (T := ez_t210) (fun _ => rfl) (by decide +kernel)
theorem ez_i211 : ∀ (pc : Nat) (x : ez_I), ez_P0 211 pc = some x → ez_okI () ez_M0 ez_K0 ez_nM 13 211 pc x = true := ez_okG_s (n := 160) (T := ez_t211) (fun _ => rfl) (by decide +kernel)
theorem ez_i212 : ∀ (pc : Nat) (x : ez_I), ez_P0 212 pc = some x → ez_okI () ez_M0 ez_K0 ez_nM 13 212 pc x = true := ez_okG_s (n := 29) (T := ez_t212) (fun _ => rfl) (by decide +kernel)
theorem ez_i213 : ∀ (pc : Nat) (x : ez_I), ez_P0 213 pc = some x → ez_okI () ez_M0 ez_K0 ez_nM 13 213 pc x = true := ez_okG_s (n := 355) (T := ez_t213) (fun _ => rfl) (by decide +kernel)
theorem ez_i214 : ∀ (pc : Nat) (x : ez_I), ez_P0 214 pc = some x → ez_okI () ez_M0 ez_K0 ez_nM 13 214 pc x = true := ez_okG_s (n := 50) (T := ez_t214) (fun _ => rfl) (by decide +kernel)
theorem ez_i215 : ∀ (pc : Nat) (x : ez_I), ez_P0 215 pc = some x → ez_okI () ez_M0 ez_K0 ez_nM 13 215 pc x = true := ez_okG_s (n := 51) (T := ez_t215) (fun _ => rfl) (by decide +kernel)
theorem ez_i216 : ∀ (pc : Nat) (x : ez_I), ez_P0 216 pc = some x → ez_okI () ez_M0 ez_K0 ez_nM 13 216 pc x = true := ez_okG_s (n := 105) (T := ez_t216) (fun _ => rfl) (by decide +kernel)
theorem ez_i217 : ∀ (pc : Nat) (x : ez_I), ez_P0 217 pc = some x → ez_okI () ez_M0 ez_K0 ez_nM 13 217 pc x = true := ez_okG_s (n := 45) (T := ez_t217) (fun _ => rfl) (by decide +kernel)
theorem ez_i218 : ∀ (pc : Nat) (x : ez_I), ez_P0 218 pc = some x → ez_okI () ez_M0 ez_K0 ez_nM 13 218 pc x = true := ez_okG_s (n := 86) (T := ez_t218) (fun _ => rfl) (by decide +kernel)
theorem ez_i219 : ∀ (pc : Nat) (x : ez_I), ez_P0 219 pc = some x → ez_okI () ez_M0 ez_K0 ez_nM 13 219 pc x = true := ez_okG_s (n := 87) (T := ez_t219) (fun _ => rfl) (by decide +kernel)
theorem ez_i220 : ∀ (pc : Nat) (x : ez_I), ez_P0 220 pc = some x → ez_okI () ez_M0 ez_K0 ez_nM 13 220 pc x = true := ez_okG_s (n := 94) (T := ez_t220) (fun _ => rfl) (by decide +kernel)
theorem ez_i221 : ∀ (pc : Nat) (x : ez_I), ez_P0 221 pc = some x → ez_okI () ez_M0 ez_K0 ez_nM 13 221 pc x = true := ez_okG_s (n := 33) (T := ez_t221) (fun _ => rfl) (by decide +kernel)
theorem ez_i222 : ∀ (pc : Nat) (x : ez_I), ez_P0 222 pc = some x → ez_okI () ez_M0 ez_K0 ez_nM 13 222 pc x = true := ez_okG_s (n := 54) (T := ez_t222) (fun _ => rfl) (by decide +kernel)
theorem ez_i223 : ∀ (pc : Nat) (x : ez_I), ez_P0 223 pc = some x → ez_okI () ez_M0 ez_K0 ez_nM 13 223 pc x = true := ez_okG_s (n := 23) (T := ez_t223) (fun _ => rfl) (by decide +kernel)
theorem ez_i224 : ∀ (pc : Nat) (x : ez_I), ez_P0 224 pc = some x → ez_okI () ez_M0 ez_K0 ez_nM 13 224 pc x = true := ez_okG_s (n := 145) (T := ez_t224) (fun _ => rfl) (by decide +kernel)
theorem ez_i225 : ∀ (pc : Nat) (x : ez_I), ez_P0 225 pc = some x → ez_okI () ez_M0 ez_K0 ez_nM 13 225 pc x = true := ez_okG_s (n := 79) (T := ez_t225) (fun _ => rfl) (by decide +kernel)
theorem ez_i226 : ∀ (pc : Nat) (x : ez_I), ez_P0 226 pc = some x → ez_okI () ez_M0 ez_K0 ez_nM 13 226 pc x = true := ez_okG_s (n := 322) (T := ez_t226) (fun _ => rfl) (by decide +kernel)
theorem ez_i227 : ∀ (pc : Nat) (x : ez_I), ez_P0 227 pc = some x → ez_okI () ez_M0 ez_K0 ez_nM 13 227 pc x = true := ez_okG_s (n := 29) (T := ez_t227) (fun _ => rfl) (by decide +kernel)
theorem ez_i228 : ∀ (pc : Nat) (x : ez_I), ez_P0 228 pc = some x → ez_okI () ez_M0 ez_K0 ez_nM 13 228 pc x = true := ez_okG_s (n := 42) (T := ez_t228) (fun _ => rfl) (by decide +kernel)
theorem ez_i229 : ∀ (pc : Nat) (x : ez_I), ez_P0 229 pc = some x → ez_okI () ez_M0 ez_K0 ez_nM 13 229 pc x = true := ez_okG_s (n := 48) (T := ez_t229) (fun _ => rfl) (by decide +kernel)
theorem ez_i230 : ∀ (pc : Nat) (x : ez_I), ez_P0 230 pc = some x → ez_okI () ez_M0 ez_K0 ez_nM 13 230 pc x = true := ez_okG_s (n := 93) (T := ez_t230) (fun _ => rfl) (by decide +kernel)
theorem ez_i231 : ∀ (pc : Nat) (x : ez_I), ez_P0 231 pc = some x → ez_okI () ez_M0 ez_K0 ez_nM 13 231 pc x = true := ez_okG_s (n := 49) (T := ez_t231) (fun _ => rfl) (by decide +kernel)
theorem ez_i232 : ∀ (pc : Nat) (x : ez_I), ez_P0 232 pc = some x → ez_okI () ez_M0 ez_K0 ez_nM 13 232 pc x = true := ez_okG_s (n := 36) (T := ez_t232) (fun _ => rfl) (by decide +kernel)
theorem ez_i233 : ∀ (pc : Nat) (x : ez_I), ez_P0 233 pc = some x → ez_okI () ez_M0 ez_K0 ez_nM 13 233 pc x = true := ez_okG_s (n := 53) (T := ez_t233) (fun _ => rfl) (by decide +kernel)
theorem ez_i234 : ∀ (pc : Nat) (x : ez_I), ez_P0 234 pc = some x → ez_okI () ez_M0 ez_K0 ez_nM 13 234 pc x = true := ez_okG_s (n := 53) (T := ez_t234) (fun _ => rfl) (by decide +kernel)
theorem ez_i235 : ∀ (pc : Nat) (x : ez_I), ez_P0 235 pc = some x → ez_okI () ez_M0 ez_K0 ez_nM 13 235 pc x = true := ez_okG_s (n := 79) (T := ez_t235) (fun _ => rfl) (by decide +kernel)
theorem ez_i236 : ∀ (pc : Nat) (x : ez_I), ez_P0 236 pc = some x → ez_okI () ez_M0 ez_K0 ez_nM 13 236 pc x = true := ez_okG_s (n := 80) (T := ez_t236) (fun _ => rfl) (by decide +kernel)
theorem ez_i237 : ∀ (pc : Nat) (x : ez_I), ez_P0 237 pc = some x → ez_okI () ez_M0 ez_K0 ez_nM 13 237 pc x = true := ez_okG_s (n := 61) (T := ez_t237) (fun _ => rfl) (by decide +kernel)
theorem ez_i238 : ∀ (pc : Nat) (x : ez_I), ez_P0 238 pc = some x → ez_okI () ez_M0 ez_K0 ez_nM 13 238 pc x = true := ez_okG_s (n := 26) (T := ez_t238) (fun _ => rfl) (by decide +kernel)
theorem ez_i239 : ∀ (pc : Nat) (x : ez_I), ez_P0 239 pc = some x → ez_okI () ez_M0 ez_K0 ez_nM 13 239 pc x = true := ez_okG_s (n := 26) (T := ez_t239) (fun _ => rfl) (by decide +kernel)
theorem ez_i240 : ∀ (pc : Nat) (x : ez_I), ez_P0 240 pc = some x → ez_okI () ez_M0 ez_K0 ez_nM 13 240 pc x = true := ez_okG_s (n := 20) (T := ez_t240) (fun _ => rfl) (by decide +kernel)
end
section
/-! Checks of a long method, in slices. -/
noncomputable def ez_okR (lo n : Nat) (m : Nat) (T : Nat → Option ez_I) : Bool := (List.range n).all fun j => match T (lo + j) with
  | none => true
  | some x => ez_okI () ez_M0 ez_K0 ez_nM 13 m (lo + j) x
theorem ez_okR_s {lo n m : Nat} {T : Nat → Option ez_I} (h : ez_okR lo n m T = true) {pc : Nat} {x : ez_I} (h1 : lo ≤ pc) (h2 : pc < lo + n) (hx : T pc = some x) : ez_okI () ez_M0 ez_K0 ez_nM 13 m pc x = true := by
  have h3 := List.all_eq_true.mp h (pc - lo) (List.mem_range.mpr (by omega))
  rw [show lo + (pc - lo) = pc by omega, hx] at h3
  exact h3
theorem ez_j241_0 : ez_okR 0 60 241 ez_t241 = true := by decide +kernel
theorem ez_j241_1 : ez_okR 60 60 241 ez_t241 = true := by decide +kernel
theorem ez_j241_2 : ez_okR 120 60 241 ez_t241 = true := by decide +kernel
theorem ez_j241_3 : ez_okR 180 60 241 ez_t241 = true := by decide +kernel
theorem ez_j241_4 : ez_okR 240 60 241 ez_t241 = true := by decide +kernel
theorem ez_j241_5 : ez_okR 300 60 241 ez_t241 = true := by decide +kernel
theorem ez_j241_6 : ez_okR 360 60 241 ez_t241 = true := by decide +kernel
theorem ez_j241_7 : ez_okR 420 60 241 ez_t241 = true := by decide +kernel
theorem ez_j241_8 : ez_okR 480 60 241 ez_t241 = true := by decide +kernel
theorem ez_j241_9 : ez_okR 540 60 241 ez_t241 = true := by decide +kernel
theorem ez_j241_10 : ez_okR 600 60 241 ez_t241 = true := by decide +kernel
theorem ez_j241_11 : ez_okR 660 60 241 ez_t241 = true := by decide +kernel
theorem ez_j241_12 : ez_okR 720 60 241 ez_t241 = true := by decide +kernel
theorem ez_j241_13 : ez_okR 780 60 241 ez_t241 = true := by decide +kernel
theorem ez_j241_14 : ez_okR 840 60 241 ez_t241 = true := by decide +kernel
theorem ez_j241_15 : ez_okR 900 60 241 ez_t241 = true := by decide +kernel
theorem ez_j241_16 : ez_okR 960 60 241 ez_t241 = true := by decide +kernel
theorem ez_j241_17 : ez_okR 1020 60 241 ez_t241 = true := by decide +kernel
theorem ez_i241 : ∀ (pc : Nat) (x : ez_I), ez_P0 241 pc = some x → ez_okI () ez_M0 ez_K0 ez_nM 13 241 pc x = true := by
  intro pc x hx
  have hx' : ez_guard 1080 ez_t241 pc = some x := hx
  unfold ez_guard at hx'
  obtain ⟨h1, h2⟩ := ez_bif hx'
  have h3 : pc < 1080 := Nat.le_of_ble_eq_true h1
  by_cases g0 : pc < 60
  · exact ez_okR_s ez_j241_0 (by omega) (by omega) h2
  by_cases g1 : pc < 120
  · exact ez_okR_s ez_j241_1 (by omega) (by omega) h2
  by_cases g2 : pc < 180
  · exact ez_okR_s ez_j241_2 (by omega) (by omega) h2
  by_cases g3 : pc < 240
  · exact ez_okR_s ez_j241_3 (by omega) (by omega) h2
  by_cases g4 : pc < 300
  · exact ez_okR_s ez_j241_4 (by omega) (by omega) h2
  by_cases g5 : pc < 360
  · exact ez_okR_s ez_j241_5 (by omega) (by omega) h2
  by_cases g6 : pc < 420
  · exact ez_okR_s ez_j241_6 (by omega) (by omega) h2
  by_cases g7 : pc < 480
  · exact ez_okR_s ez_j241_7 (by omega) (by omega) h2
  by_cases g8 : pc < 540
  · exact ez_okR_s ez_j241_8 (by omega) (by omega) h2
  by_cases g9 : pc < 600
  · exact ez_okR_s ez_j241_9 (by omega) (by omega) h2
  by_cases g10 : pc < 660
  · exact ez_okR_s ez_j241_10 (by omega) (by omega) h2
  by_cases g11 : pc < 720
  · exact ez_okR_s ez_j241_11 (by omega) (by omega) h2
  by_cases g12 : pc < 780
  · exact ez_okR_s ez_j241_12 (by omega) (by omega) h2
  by_cases g13 : pc < 840
  · exact ez_okR_s ez_j241_13 (by omega) (by omega) h2
  by_cases g14 : pc < 900
  · exact ez_okR_s ez_j241_14 (by omega) (by omega) h2
  by_cases g15 : pc < 960
  · exact ez_okR_s ez_j241_15 (by omega) (by omega) h2
  by_cases g16 : pc < 1020
  · exact ez_okR_s ez_j241_16 (by omega) (by omega) h2
  by_cases g17 : pc < 1080
  · exact ez_okR_s ez_j241_17 (by omega) (by omega) h2
  exact absurd h3 (by omega)
end
