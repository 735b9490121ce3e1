/-! checks, on -/
theorem ez_ga6 : ∀ b ∈ [ez_okG 20 240 ez_t240], b = true := by decide +kernel
theorem ez_i240 : ∀ (pc : Nat) (x : ez_I), ez_P0 240 pc = some x → ez_okI ez_tb ez_M0 ez_K0 ez_nM 13 240 pc x = true := ez_okG_s (n := 20) (T := ez_t240) (fun _ => rfl) (ez_ga6 _ (List.mem_of_getElem? (i := 0) rfl))
