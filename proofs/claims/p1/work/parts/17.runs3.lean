/-! Calls on new objects that the kernel runs. -/
noncomputable def ev_chkF (X : ez_X) (pc : Nat) : Bool := match ev_R X 40000 241 pc [ez_scr, .ref 0, .ref 35, .int 0] [] (ev_hp ev_I0 ev_J0 ev_R0 []) 65 121826 with
  | some (some (.int v), _, c, k) => decide (v = 1) && (Nat.ble c 600000 && Nat.ble k 7302250)
  | _ => false
set_option maxRecDepth 1000000 in
theorem ek_bestSalvo0 : ∀ xs, (([0] : List Int).all fun a => ev_chkF (ev_x1 xs a) 786) = true := ev_all (fun xs => ([0] : List Int).all fun a => ev_chkF (ev_x1 xs a) 786) (by decide +kernel)
set_option maxRecDepth 1000000 in
theorem ek_bestSalvo1 : ∀ xs, (([1] : List Int).all fun a => ev_chkF (ev_x1 xs a) 786) = true := ev_all (fun xs => ([1] : List Int).all fun a => ev_chkF (ev_x1 xs a) 786) (by decide +kernel)
set_option maxRecDepth 1000000 in
theorem ek_bestSalvo2 : ∀ xs, (([2] : List Int).all fun a => ev_chkF (ev_x1 xs a) 786) = true := ev_all (fun xs => ([2] : List Int).all fun a => ev_chkF (ev_x1 xs a) 786) (by decide +kernel)
