section
/-! The closures are the instructions. -/
theorem fk_0_0 (X : ez_X) (pc : Nat) : fx_ok X (ft_0_0 X pc) (ez_t0_0 pc) := by
  delta ft_0_0 ez_t0_0
  exact fx_cnd (fx_cnd (fx_cnd (fx_cnd (fun _ _ _ _ _ _ _ _ => rfl) fx_no) (fx_cnd (fx_cnd (fun _ _ _ _ _ _ _ _ => rfl) fx_no) (fx_cnd (fun _ _ _ _ _ _ _ _ => rfl) fx_no))) (fx_cnd (fx_cnd (fun _ _ _ _ _ _ _ _ => rfl) fx_no) (fx_cnd (fx_cnd (fun _ _ _ _ _ _ _ _ => rfl) fx_no) (fx_cnd (fun _ _ _ _ _ _ _ _ => rfl) fx_no)))) (fx_cnd (fx_cnd (fx_cnd (fun _ _ _ _ _ _ _ _ => rfl) fx_no) (fx_cnd (fx_cnd (fun _ _ _ _ _ _ _ _ => rfl) fx_no) (fx_cnd (fun _ _ _ _ _ _ _ _ => rfl) fx_no))) (fx_cnd (fx_cnd (fun _ _ _ _ _ _ _ _ => rfl) fx_no) (fx_cnd (fx_cnd (fun _ _ _ _ _ _ _ _ => rfl) fx_no) (fx_cnd (fun _ _ _ _ _ _ _ _ => rfl) fx_no))))
theorem fk_0_1 (X : ez_X) (pc : Nat) : fx_ok X (ft_0_1 X pc) (ez_t0_1 pc) := by
  delta ft_0_1 ez_t0_1
  exact fx_cnd (fx_cnd (fx_cnd (fx_cnd (fun _ _ _ _ _ _ _ _ => rfl) fx_no) (fx_cnd (fx_cnd (fun _ _ _ _ _ _ _ _ => rfl) fx_no) (fx_cnd (fun _ _ _ _ _ _ _ _ => rfl) fx_no))) (fx_cnd (fx_cnd (fun _ _ _ _ _ _ _ _ => rfl) fx_no) (fx_cnd (fx_cnd (fun _ _ _ _ _ _ _ _ => rfl) fx_no) (fx_cnd (fun _ _ _ _ _ _ _ _ => rfl) fx_no)))) (fx_cnd (fx_cnd (fx_cnd (fun _ _ _ _ _ _ _ _ => rfl) fx_no) (fx_cnd (fx_cnd (fun _ _ _ _ _ _ _ _ => rfl) fx_no) (fx_cnd (fun _ _ _ _ _ _ _ _ => rfl) fx_no))) (fx_cnd (fx_cnd (fun _ _ _ _ _ _ _ _ => rfl) fx_no) (fx_cnd (fx_cnd (fun _ _ _ _ _ _ _ _ => rfl) fx_no) (fx_cnd (fun _ _ _ _ _ _ _ _ => rfl) fx_no))))
theorem fk_0_2 (X : ez_X) (pc : Nat) : fx_ok X (ft_0_2 X pc) (ez_t0_2 pc) := by
  delta ft_0_2 ez_t0_2
  exact fx_cnd (fk_0_0 X pc) (fk_0_1 X pc)
theorem fk_0_3 (X : ez_X) (pc : Nat) : fx_ok X (ft_0_3 X pc) (ez_t0_3 pc) := by
  delta ft_0_3 ez_t0_3
  exact fx_cnd (fx_cnd (fx_cnd (fx_cnd (fun _ _ _ _ _ _ _ _ => rfl) fx_no) (fx_cnd (fx_cnd (fun _ _ _ _ _ _ _ _ => rfl) fx_no) (fx_cnd (fun _ _ _ _ _ _ _ _ => rfl) fx_no))) (fx_cnd (fx_cnd (fun _ _ _ _ _ _ _ _ => rfl) fx_no) (fx_cnd (fx_cnd (fun _ _ _ _ _ _ _ _ => rfl) fx_no) (fx_cnd (fun _ _ _ _ _ _ _ _ => rfl) fx_no)))) (fx_cnd (fx_cnd (fx_cnd (fun _ _ _ _ _ _ _ _ => rfl) fx_no) (fx_cnd (fx_cnd (fun _ _ _ _ _ _ _ _ => rfl) fx_no) (fx_cnd (fun _ _ _ _ _ _ _ _ => rfl) fx_no))) (fx_cnd (fx_cnd (fun _ _ _ _ _ _ _ _ => rfl) fx_no) (fx_cnd (fx_cnd (fun _ _ _ _ _ _ _ _ => rfl) fx_no) (fx_cnd (fun _ _ _ _ _ _ _ _ => rfl) fx_no))))
theorem fk_0_4 (X : ez_X) (pc : Nat) : fx_ok X (ft_0_4 X pc) (ez_t0_4 pc) := by
  delta ft_0_4 ez_t0_4
  exact fx_cnd (fx_cnd (fx_cnd (fx_cnd (fun _ _ _ _ _ _ _ _ => rfl) fx_no) (fx_cnd (fx_cnd (fun _ _ _ _ _ _ _ _ => rfl) fx_no) (fx_cnd (fun _ _ _ _ _ _ _ _ => rfl) fx_no))) (fx_cnd (fx_cnd (fun _ _ _ _ _ _ _ _ => rfl) fx_no) (fx_cnd (fx_cnd (fun _ _ _ _ _ _ _ _ => rfl) fx_no) (fx_cnd (fun _ _ _ _ _ _ _ _ => rfl) fx_no)))) (fx_cnd (fx_cnd (fx_cnd (fun _ _ _ _ _ _ _ _ => rfl) fx_no) (fx_cnd (fx_cnd (fun _ _ _ _ _ _ _ _ => rfl) fx_no) (fx_cnd (fun _ _ _ _ _ _ _ _ => rfl) fx_no))) (fx_cnd (fx_cnd (fun _ _ _ _ _ _ _ _ => rfl) fx_no) (fx_cnd (fx_cnd (fun _ _ _ _ _ _ _ _ => rfl) fx_no) (fx_cnd (fun _ _ _ _ _ _ _ _ => rfl) fx_no))))
theorem fk_0_5 (X : ez_X) (pc : Nat) : fx_ok X (ft_0_5 X pc) (ez_t0_5 pc) := by
  delta ft_0_5 ez_t0_5
  exact fx_cnd (fk_0_3 X pc) (fk_0_4 X pc)
theorem fk_0_6 (X : ez_X) (pc : Nat) : fx_ok X (ft_0_6 X pc) (ez_t0_6 pc) := by
  delta ft_0_6 ez_t0_6
  exact fx_cnd (fk_0_2 X pc) (fk_0_5 X pc)
theorem fk_0_7 (X : ez_X) (pc : Nat) : fx_ok X (ft_0_7 X pc) (ez_t0_7 pc) := by
  delta ft_0_7 ez_t0_7
  exact fx_cnd (fx_cnd (fx_cnd (fx_cnd (fun _ _ _ _ _ _ _ _ => rfl) fx_no) (fx_cnd (fx_cnd (fun _ _ _ _ _ _ _ _ => rfl) fx_no) (fx_cnd (fun _ _ _ _ _ _ _ _ => rfl) fx_no))) (fx_cnd (fx_cnd (fun _ _ _ _ _ _ _ _ => rfl) fx_no) (fx_cnd (fx_cnd (fun _ _ _ _ _ _ _ _ => rfl) fx_no) (fx_cnd (fun _ _ _ _ _ _ _ _ => rfl) fx_no)))) (fx_cnd (fx_cnd (fx_cnd (fun _ _ _ _ _ _ _ _ => rfl) fx_no) (fx_cnd (fx_cnd (fun _ _ _ _ _ _ _ _ => rfl) fx_no) (fx_cnd (fun _ _ _ _ _ _ _ _ => rfl) fx_no))) (fx_cnd (fx_cnd (fun _ _ _ _ _ _ _ _ => rfl) fx_no) (fx_cnd (fx_cnd (fun _ _ _ _ _ _ _ _ => rfl) fx_no) (fx_cnd (fun _ _ _ _ _ _ _ _ => rfl) fx_no))))
theorem fk_0_8 (X : ez_X) (pc : Nat) : fx_ok X (ft_0_8 X pc) (ez_t0_8 pc) := by
  delta ft_0_8 ez_t0_8
  exact fx_cnd (fx_cnd (fx_cnd (fx_cnd (fun _ _ _ _ _ _ _ _ => rfl) fx_no) (fx_cnd (fx_cnd (fun _ _ _ _ _ _ _ _ => rfl) fx_no) (fx_cnd (fun _ _ _ _ _ _ _ _ => rfl) fx_no))) (fx_cnd (fx_cnd (fun _ _ _ _ _ _ _ _ => rfl) fx_no) (fx_cnd (fx_cnd (fun _ _ _ _ _ _ _ _ => rfl) fx_no) (fx_cnd (fun _ _ _ _ _ _ _ _ => rfl) fx_no)))) (fx_cnd (fx_cnd (fx_cnd (fun _ _ _ _ _ _ _ _ => rfl) fx_no) (fx_cnd (fx_cnd (fun _ _ _ _ _ _ _ _ => rfl) fx_no) (fx_cnd (fun _ _ _ _ _ _ _ _ => rfl) fx_no))) (fx_cnd (fx_cnd (fun _ _ _ _ _ _ _ _ => rfl) fx_no) (fx_cnd (fx_cnd (fun _ _ _ _ _ _ _ _ => rfl) fx_no) (fx_cnd (fun _ _ _ _ _ _ _ _ => rfl) fx_no))))
theorem fk_0_9 (X : ez_X) (pc : Nat) : fx_ok X (ft_0_9 X pc) (ez_t0_9 pc) := by
  delta ft_0_9 ez_t0_9
  exact fx_cnd (fk_0_7 X pc) (fk_0_8 X pc)
theorem fk_0_10 (X : ez_X) (pc : Nat) : fx_ok X (ft_0_10 X pc) (ez_t0_10 pc) := by
  delta ft_0_10 ez_t0_10
  exact fx_cnd (fx_cnd (fx_cnd (fx_cnd (fun _ _ _ _ _ _ _ _ => rfl) fx_no) (fx_cnd (fx_cnd (fun _ _ _ _ _ _ _ _ => rfl) fx_no) (fx_cnd (fun _ _ _ _ _ _ _ _ => rfl) fx_no))) (fx_cnd (fx_cnd (fun _ _ _ _ _ _ _ _ => rfl) fx_no) (fx_cnd (fx_cnd (fun _ _ _ _ _ _ _ _ => rfl) fx_no) (fx_cnd (fun _ _ _ _ _ _ _ _ => rfl) fx_no)))) (fx_cnd (fx_cnd (fx_cnd (fun _ _ _ _ _ _ _ _ => rfl) fx_no) (fx_cnd (fx_cnd (fun _ _ _ _ _ _ _ _ => rfl) fx_no) (fx_cnd (fun _ _ _ _ _ _ _ _ => rfl) fx_no))) (fx_cnd (fx_cnd (fun _ _ _ _ _ _ _ _ => rfl) fx_no) (fx_cnd (fx_cnd (fun _ _ _ _ _ _ _ _ => rfl) fx_no) (fx_cnd (fun _ _ _ _ _ _ _ _ => rfl) fx_no))))
theorem fk_0_11 (X : ez_X) (pc : Nat) : fx_ok X (ft_0_11 X pc) (ez_t0_11 pc) := by
  delta ft_0_11 ez_t0_11
  exact fx_cnd (fx_cnd (fx_cnd (fun _ _ _ _ _ _ _ _ => rfl) fx_no) (fx_cnd (fx_cnd (fun _ _ _ _ _ _ _ _ => rfl) fx_no) (fx_cnd (fun _ _ _ _ _ _ _ _ => rfl) fx_no))) (fx_cnd (fx_cnd (fun _ _ _ _ _ _ _ _ => rfl) fx_no) (fx_cnd (fx_cnd (fun _ _ _ _ _ _ _ _ => rfl) fx_no) (fx_cnd (fun _ _ _ _ _ _ _ _ => rfl) fx_no)))
theorem fk_0_12 (X : ez_X) (pc : Nat) : fx_ok X (ft_0_12 X pc) (ez_t0_12 pc) := by
  delta ft_0_12 ez_t0_12
  exact fx_cnd (fx_cnd (fx_cnd (fun _ _ _ _ _ _ _ _ => rfl) fx_no) (fx_cnd (fx_cnd (fun _ _ _ _ _ _ _ _ => rfl) fx_no) (fx_cnd (fun _ _ _ _ _ _ _ _ => rfl) fx_no))) (fx_cnd (fx_cnd (fx_cnd (fun _ _ _ _ _ _ _ _ => rfl) fx_no) (fx_cnd (fun _ _ _ _ _ _ _ _ => rfl) fx_no)) (fx_cnd (fx_cnd (fun _ _ _ _ _ _ _ _ => rfl) fx_no) (fx_cnd (fun _ _ _ _ _ _ _ _ => rfl) fx_no)))
theorem fk_0_13 (X : ez_X) (pc : Nat) : fx_ok X (ft_0_13 X pc) (ez_t0_13 pc) := by
  delta ft_0_13 ez_t0_13
  exact fx_cnd (fk_0_11 X pc) (fk_0_12 X pc)
theorem fk_0_14 (X : ez_X) (pc : Nat) : fx_ok X (ft_0_14 X pc) (ez_t0_14 pc) := by
  delta ft_0_14 ez_t0_14
  exact fx_cnd (fk_0_10 X pc) (fk_0_13 X pc)
theorem fk_0_15 (X : ez_X) (pc : Nat) : fx_ok X (ft_0_15 X pc) (ez_t0_15 pc) := by
  delta ft_0_15 ez_t0_15
  exact fx_cnd (fk_0_9 X pc) (fk_0_14 X pc)
theorem fk_0 (X : ez_X) (pc : Nat) : fx_ok X (ft_0 X pc) (ez_t0 pc) := by
  delta ft_0 ez_t0
  exact fx_cnd (fk_0_6 X pc) (fk_0_15 X pc)
theorem fk_1_0 (X : ez_X) (pc : Nat) : fx_ok X (ft_1_0 X pc) (ez_t1_0 pc) := by
  delta ft_1_0 ez_t1_0
  exact fx_cnd (fx_cnd (fx_cnd (fun _ _ _ _ _ _ _ _ => rfl) fx_no) (fx_cnd (fx_cnd (fun _ _ _ _ _ _ _ _ => rfl) fx_no) (fx_cnd (fun _ _ _ _ _ _ _ _ => rfl) fx_no))) (fx_cnd (fx_cnd (fun _ _ _ _ _ _ _ _ => rfl) fx_no) (fx_cnd (fx_cnd (fun _ _ _ _ _ _ _ _ => rfl) fx_no) (fx_cnd (fun _ _ _ _ _ _ _ _ => rfl) fx_no)))
theorem fk_1_1 (X : ez_X) (pc : Nat) : fx_ok X (ft_1_1 X pc) (ez_t1_1 pc) := by
  delta ft_1_1 ez_t1_1
  exact fx_cnd (fx_cnd (fx_cnd (fun _ _ _ _ _ _ _ _ => rfl) fx_no) (fx_cnd (fx_cnd (fun _ _ _ _ _ _ _ _ => rfl) fx_no) (fx_cnd (fun _ _ _ _ _ _ _ _ => rfl) fx_no))) (fx_cnd (fx_cnd (fx_cnd (fun _ _ _ _ _ _ _ _ => rfl) fx_no) (fx_cnd (fun _ _ _ _ _ _ _ _ => rfl) fx_no)) (fx_cnd (fx_cnd (fun _ _ _ _ _ _ _ _ => rfl) fx_no) (fx_cnd (fun _ _ _ _ _ _ _ _ => rfl) fx_no)))
theorem fk_1_2 (X : ez_X) (pc : Nat) : fx_ok X (ft_1_2 X pc) (ez_t1_2 pc) := by
  delta ft_1_2 ez_t1_2
  exact fx_cnd (fk_1_0 X pc) (fk_1_1 X pc)
theorem fk_1_3 (X : ez_X) (pc : Nat) : fx_ok X (ft_1_3 X pc) (ez_t1_3 pc) := by
  delta ft_1_3 ez_t1_3
  exact fx_cnd (fx_cnd (fx_cnd (fun _ _ _ _ _ _ _ _ => rfl) fx_no) (fx_cnd (fx_cnd (fun _ _ _ _ _ _ _ _ => rfl) fx_no) (fx_cnd (fun _ _ _ _ _ _ _ _ => rfl) fx_no))) (fx_cnd (fx_cnd (fx_cnd (fun _ _ _ _ _ _ _ _ => rfl) fx_no) (fx_cnd (fun _ _ _ _ _ _ _ _ => rfl) fx_no)) (fx_cnd (fx_cnd (fun _ _ _ _ _ _ _ _ => rfl) fx_no) (fx_cnd (fun _ _ _ _ _ _ _ _ => rfl) fx_no)))
theorem fk_1_4 (X : ez_X) (pc : Nat) : fx_ok X (ft_1_4 X pc) (ez_t1_4 pc) := by
  delta ft_1_4 ez_t1_4
  exact fx_cnd (fx_cnd (fx_cnd (fun _ _ _ _ _ _ _ _ => rfl) fx_no) (fx_cnd (fx_cnd (fun _ _ _ _ _ _ _ _ => rfl) fx_no) (fx_cnd (fun _ _ _ _ _ _ _ _ => rfl) fx_no))) (fx_cnd (fx_cnd (fx_cnd (fun _ _ _ _ _ _ _ _ => rfl) fx_no) (fx_cnd (fun _ _ _ _ _ _ _ _ => rfl) fx_no)) (fx_cnd (fx_cnd (fun _ _ _ _ _ _ _ _ => rfl) fx_no) (fx_cnd (fun _ _ _ _ _ _ _ _ => rfl) fx_no)))
theorem fk_1_5 (X : ez_X) (pc : Nat) : fx_ok X (ft_1_5 X pc) (ez_t1_5 pc) := by
  delta ft_1_5 ez_t1_5
  exact fx_cnd (fk_1_3 X pc) (fk_1_4 X pc)
theorem fk_1 (X : ez_X) (pc : Nat) : fx_ok X (ft_1 X pc) (ez_t1 pc) := by
  delta ft_1 ez_t1
  exact fx_cnd (fk_1_2 X pc) (fk_1_5 X pc)
theorem fk_2 (X : ez_X) (pc : Nat) : fx_ok X (ft_2 X pc) (ez_t2 pc) := by
  delta ft_2 ez_t2
  exact fx_cnd (fx_cnd (fx_cnd (fun _ _ _ _ _ _ _ _ => rfl) fx_no) (fx_cnd (fx_cnd (fun _ _ _ _ _ _ _ _ => rfl) fx_no) (fx_cnd (fun _ _ _ _ _ _ _ _ => rfl) fx_no))) (fx_cnd (fx_cnd (fx_cnd (fun _ _ _ _ _ _ _ _ => rfl) fx_no) (fx_cnd (fun _ _ _ _ _ _ _ _ => rfl) fx_no)) (fx_cnd (fx_cnd (fun _ _ _ _ _ _ _ _ => rfl) fx_no) (fx_cnd (fun _ _ _ _ _ _ _ _ => rfl) fx_no)))
theorem fk_3 (X : ez_X) (pc : Nat) : fx_ok X (ft_3 X pc) (ez_t3 pc) := by
  delta ft_3 ez_t3
  exact fx_cnd (fx_cnd (fx_cnd (fx_cnd (fun _ _ _ _ _ _ _ _ => rfl) fx_no) (fx_cnd (fx_cnd (fun _ _ _ _ _ _ _ _ => rfl) fx_no) (fx_cnd (fun _ _ _ _ _ _ _ _ => rfl) fx_no))) (fx_cnd (fx_cnd (fun _ _ _ _ _ _ _ _ => rfl) fx_no) (fx_cnd (fx_cnd (fun _ _ _ _ _ _ _ _ => rfl) fx_no) (fx_cnd (fun _ _ _ _ _ _ _ _ => rfl) fx_no)))) (fx_cnd (fx_cnd (fx_cnd (fun _ _ _ _ _ _ _ _ => rfl) fx_no) (fx_cnd (fx_cnd (fun _ _ _ _ _ _ _ _ => rfl) fx_no) (fx_cnd (fun _ _ _ _ _ _ _ _ => rfl) fx_no))) (fx_cnd (fx_cnd (fun _ _ _ _ _ _ _ _ => rfl) fx_no) (fx_cnd (fx_cnd (fun _ _ _ _ _ _ _ _ => rfl) fx_no) (fx_cnd (fun _ _ _ _ _ _ _ _ => rfl) fx_no))))
theorem fk_4 (X : ez_X) (pc : Nat) : fx_ok X (ft_4 X pc) (ez_t4 pc) := by
  delta ft_4 ez_t4
  exact fx_cnd (fx_cnd (fx_cnd (fx_cnd (fun _ _ _ _ _ _ _ _ => rfl) fx_no) (fx_cnd (fx_cnd (fun _ _ _ _ _ _ _ _ => rfl) fx_no) (fx_cnd (fun _ _ _ _ _ _ _ _ => rfl) fx_no))) (fx_cnd (fx_cnd (fun _ _ _ _ _ _ _ _ => rfl) fx_no) (fx_cnd (fx_cnd (fun _ _ _ _ _ _ _ _ => rfl) fx_no) (fx_cnd (fun _ _ _ _ _ _ _ _ => rfl) fx_no)))) (fx_cnd (fx_cnd (fx_cnd (fun _ _ _ _ _ _ _ _ => rfl) fx_no) (fx_cnd (fx_cnd (fun _ _ _ _ _ _ _ _ => rfl) fx_no) (fx_cnd (fun _ _ _ _ _ _ _ _ => rfl) fx_no))) (fx_cnd (fx_cnd (fun _ _ _ _ _ _ _ _ => rfl) fx_no) (fx_cnd (fx_cnd (fun _ _ _ _ _ _ _ _ => rfl) fx_no) (fx_cnd (fun _ _ _ _ _ _ _ _ => rfl) fx_no))))
theorem fk_5_0 (X : ez_X) (pc : Nat) : fx_ok X (ft_5_0 X pc) (ez_t5_0 pc) := by
  delta ft_5_0 ez_t5_0
  exact fx_cnd (fx_cnd (fx_cnd (fx_cnd (fun _ _ _ _ _ _ _ _ => rfl) fx_no) (fx_cnd (fun _ _ _ _ _ _ _ _ => rfl) fx_no)) (fx_cnd (fx_cnd (fun _ _ _ _ _ _ _ _ => rfl) fx_no) (fx_cnd (fun _ _ _ _ _ _ _ _ => rfl) fx_no))) (fx_cnd (fx_cnd (fx_cnd (fun _ _ _ _ _ _ _ _ => rfl) fx_no) (fx_cnd (fun _ _ _ _ _ _ _ _ => rfl) fx_no)) (fx_cnd (fx_cnd (fun _ _ _ _ _ _ _ _ => rfl) fx_no) (fx_cnd (fun _ _ _ _ _ _ _ _ => rfl) fx_no)))
theorem fk_5_1 (X : ez_X) (pc : Nat) : fx_ok X (ft_5_1 X pc) (ez_t5_1 pc) := by
  delta ft_5_1 ez_t5_1
  exact fx_cnd (fx_cnd (fx_cnd (fx_cnd (fun _ _ _ _ _ _ _ _ => rfl) fx_no) (fx_cnd (fun _ _ _ _ _ _ _ _ => rfl) fx_no)) (fx_cnd (fx_cnd (fun _ _ _ _ _ _ _ _ => rfl) fx_no) (fx_cnd (fun _ _ _ _ _ _ _ _ => rfl) fx_no))) (fx_cnd (fx_cnd (fx_cnd (fun _ _ _ _ _ _ _ _ => rfl) fx_no) (fx_cnd (fun _ _ _ _ _ _ _ _ => rfl) fx_no)) (fx_cnd (fx_cnd (fun _ _ _ _ _ _ _ _ => rfl) fx_no) (fx_cnd (fun _ _ _ _ _ _ _ _ => rfl) fx_no)))
theorem fk_5 (X : ez_X) (pc : Nat) : fx_ok X (ft_5 X pc) (ez_t5 pc) := by
  delta ft_5 ez_t5
  exact fx_cnd (fk_5_0 X pc) (fk_5_1 X pc)
theorem fk_6_0 (X : ez_X) (pc : Nat) : fx_ok X (ft_6_0 X pc) (ez_t6_0 pc) := by
  delta ft_6_0 ez_t6_0
  exact fx_cnd (fx_cnd (fx_cnd (fx_cnd (fun _ _ _ _ _ _ _ _ => rfl) fx_no) (fx_cnd (fun _ _ _ _ _ _ _ _ => rfl) fx_no)) (fx_cnd (fx_cnd (fun _ _ _ _ _ _ _ _ => rfl) fx_no) (fx_cnd (fun _ _ _ _ _ _ _ _ => rfl) fx_no))) (fx_cnd (fx_cnd (fx_cnd (fun _ _ _ _ _ _ _ _ => rfl) fx_no) (fx_cnd (fun _ _ _ _ _ _ _ _ => rfl) fx_no)) (fx_cnd (fx_cnd (fun _ _ _ _ _ _ _ _ => rfl) fx_no) (fx_cnd (fun _ _ _ _ _ _ _ _ => rfl) fx_no)))
theorem fk_6_1 (X : ez_X) (pc : Nat) : fx_ok X (ft_6_1 X pc) (ez_t6_1 pc) := by
  delta ft_6_1 ez_t6_1
  exact fx_cnd (fx_cnd (fx_cnd (fx_cnd (fun _ _ _ _ _ _ _ _ => rfl) fx_no) (fx_cnd (fun _ _ _ _ _ _ _ _ => rfl) fx_no)) (fx_cnd (fx_cnd (fun _ _ _ _ _ _ _ _ => rfl) fx_no) (fx_cnd (fun _ _ _ _ _ _ _ _ => rfl) fx_no))) (fx_cnd (fx_cnd (fx_cnd (fun _ _ _ _ _ _ _ _ => rfl) fx_no) (fx_cnd (fun _ _ _ _ _ _ _ _ => rfl) fx_no)) (fx_cnd (fx_cnd (fun _ _ _ _ _ _ _ _ => rfl) fx_no) (fx_cnd (fx_cnd (fun _ _ _ _ _ _ _ _ => rfl) fx_no) (fx_cnd (fun _ _ _ _ _ _ _ _ => rfl) fx_no))))
theorem fk_6_2 (X : ez_X) (pc : Nat) : fx_ok X (ft_6_2 X pc) (ez_t6_2 pc) := by
  delta ft_6_2 ez_t6_2
  exact fx_cnd (fk_6_0 X pc) (fk_6_1 X pc)
theorem fk_6_3 (X : ez_X) (pc : Nat) : fx_ok X (ft_6_3 X pc) (ez_t6_3 pc) := by
  delta ft_6_3 ez_t6_3
  exact fx_cnd (fx_cnd (fx_cnd (fx_cnd (fun _ _ _ _ _ _ _ _ => rfl) fx_no) (fx_cnd (fun _ _ _ _ _ _ _ _ => rfl) fx_no)) (fx_cnd (fx_cnd (fun _ _ _ _ _ _ _ _ => rfl) fx_no) (fx_cnd (fun _ _ _ _ _ _ _ _ => rfl) fx_no))) (fx_cnd (fx_cnd (fx_cnd (fun _ _ _ _ _ _ _ _ => rfl) fx_no) (fx_cnd (fun _ _ _ _ _ _ _ _ => rfl) fx_no)) (fx_cnd (fx_cnd (fun _ _ _ _ _ _ _ _ => rfl) fx_no) (fx_cnd (fun _ _ _ _ _ _ _ _ => rfl) fx_no)))
theorem fk_6_4 (X : ez_X) (pc : Nat) : fx_ok X (ft_6_4 X pc) (ez_t6_4 pc) := by
  delta ft_6_4 ez_t6_4
  exact fx_cnd (fx_cnd (fx_cnd (fx_cnd (fun _ _ _ _ _ _ _ _ => rfl) fx_no) (fx_cnd (fun _ _ _ _ _ _ _ _ => rfl) fx_no)) (fx_cnd (fx_cnd (fun _ _ _ _ _ _ _ _ => rfl) fx_no) (fx_cnd (fun _ _ _ _ _ _ _ _ => rfl) fx_no))) (fx_cnd (fx_cnd (fx_cnd (fun _ _ _ _ _ _ _ _ => rfl) fx_no) (fx_cnd (fun _ _ _ _ _ _ _ _ => rfl) fx_no)) (fx_cnd (fx_cnd (fun _ _ _ _ _ _ _ _ => rfl) fx_no) (fx_cnd (fx_cnd (fun _ _ _ _ _ _ _ _ => rfl) fx_no) (fx_cnd (fun _ _ _ _ _ _ _ _ => rfl) fx_no))))
theorem fk_6_5 (X : ez_X) (pc : Nat) : fx_ok X (ft_6_5 X pc) (ez_t6_5 pc) := by
  delta ft_6_5 ez_t6_5
  exact fx_cnd (fk_6_3 X pc) (fk_6_4 X pc)
theorem fk_6 (X : ez_X) (pc : Nat) : fx_ok X (ft_6 X pc) (ez_t6 pc) := by
  delta ft_6 ez_t6
  exact fx_cnd (fk_6_2 X pc) (fk_6_5 X pc)
theorem fk_7_0 (X : ez_X) (pc : Nat) : fx_ok X (ft_7_0 X pc) (ez_t7_0 pc) := by
  delta ft_7_0 ez_t7_0
  exact fx_cnd (fx_cnd (fx_cnd (fx_cnd (fun _ _ _ _ _ _ _ _ => rfl) fx_no) (fx_cnd (fun _ _ _ _ _ _ _ _ => rfl) fx_no)) (fx_cnd (fx_cnd (fun _ _ _ _ _ _ _ _ => rfl) fx_no) (fx_cnd (fx_cnd (fun _ _ _ _ _ _ _ _ => rfl) fx_no) (fx_cnd (fun _ _ _ _ _ _ _ _ => rfl) fx_no)))) (fx_cnd (fx_cnd (fx_cnd (fun _ _ _ _ _ _ _ _ => rfl) fx_no) (fx_cnd (fx_cnd (fun _ _ _ _ _ _ _ _ => rfl) fx_no) (fx_cnd (fun _ _ _ _ _ _ _ _ => rfl) fx_no))) (fx_cnd (fx_cnd (fun _ _ _ _ _ _ _ _ => rfl) fx_no) (fx_cnd (fx_cnd (fun _ _ _ _ _ _ _ _ => rfl) fx_no) (fx_cnd (fun _ _ _ _ _ _ _ _ => rfl) fx_no))))
theorem fk_7_1 (X : ez_X) (pc : Nat) : fx_ok X (ft_7_1 X pc) (ez_t7_1 pc) := by
  delta ft_7_1 ez_t7_1
  exact fx_cnd (fx_cnd (fx_cnd (fx_cnd (fun _ _ _ _ _ _ _ _ => rfl) fx_no) (fx_cnd (fun _ _ _ _ _ _ _ _ => rfl) fx_no)) (fx_cnd (fx_cnd (fun _ _ _ _ _ _ _ _ => rfl) fx_no) (fx_cnd (fx_cnd (fun _ _ _ _ _ _ _ _ => rfl) fx_no) (fx_cnd (fun _ _ _ _ _ _ _ _ => rfl) fx_no)))) (fx_cnd (fx_cnd (fx_cnd (fun _ _ _ _ _ _ _ _ => rfl) fx_no) (fx_cnd (fx_cnd (fun _ _ _ _ _ _ _ _ => rfl) fx_no) (fx_cnd (fun _ _ _ _ _ _ _ _ => rfl) fx_no))) (fx_cnd (fx_cnd (fun _ _ _ _ _ _ _ _ => rfl) fx_no) (fx_cnd (fx_cnd (fun _ _ _ _ _ _ _ _ => rfl) fx_no) (fx_cnd (fun _ _ _ _ _ _ _ _ => rfl) fx_no))))
theorem fk_7_2 (X : ez_X) (pc : Nat) : fx_ok X (ft_7_2 X pc) (ez_t7_2 pc) := by
  delta ft_7_2 ez_t7_2
  exact fx_cnd (fk_7_0 X pc) (fk_7_1 X pc)
theorem fk_7_3 (X : ez_X) (pc : Nat) : fx_ok X (ft_7_3 X pc) (ez_t7_3 pc) := by
  delta ft_7_3 ez_t7_3
  exact fx_cnd (fx_cnd (fx_cnd (fx_cnd (fun _ _ _ _ _ _ _ _ => rfl) fx_no) (fx_cnd (fun _ _ _ _ _ _ _ _ => rfl) fx_no)) (fx_cnd (fx_cnd (fun _ _ _ _ _ _ _ _ => rfl) fx_no) (fx_cnd (fx_cnd (fun _ _ _ _ _ _ _ _ => rfl) fx_no) (fx_cnd (fun _ _ _ _ _ _ _ _ => rfl) fx_no)))) (fx_cnd (fx_cnd (fx_cnd (fun _ _ _ _ _ _ _ _ => rfl) fx_no) (fx_cnd (fx_cnd (fun _ _ _ _ _ _ _ _ => rfl) fx_no) (fx_cnd (fun _ _ _ _ _ _ _ _ => rfl) fx_no))) (fx_cnd (fx_cnd (fun _ _ _ _ _ _ _ _ => rfl) fx_no) (fx_cnd (fx_cnd (fun _ _ _ _ _ _ _ _ => rfl) fx_no) (fx_cnd (fun _ _ _ _ _ _ _ _ => rfl) fx_no))))
theorem fk_7_4 (X : ez_X) (pc : Nat) : fx_ok X (ft_7_4 X pc) (ez_t7_4 pc) := by
  delta ft_7_4 ez_t7_4
  exact fx_cnd (fx_cnd (fx_cnd (fx_cnd (fun _ _ _ _ _ _ _ _ => rfl) fx_no) (fx_cnd (fun _ _ _ _ _ _ _ _ => rfl) fx_no)) (fx_cnd (fx_cnd (fun _ _ _ _ _ _ _ _ => rfl) fx_no) (fx_cnd (fx_cnd (fun _ _ _ _ _ _ _ _ => rfl) fx_no) (fx_cnd (fun _ _ _ _ _ _ _ _ => rfl) fx_no)))) (fx_cnd (fx_cnd (fx_cnd (fun _ _ _ _ _ _ _ _ => rfl) fx_no) (fx_cnd (fx_cnd (fun _ _ _ _ _ _ _ _ => rfl) fx_no) (fx_cnd (fun _ _ _ _ _ _ _ _ => rfl) fx_no))) (fx_cnd (fx_cnd (fun _ _ _ _ _ _ _ _ => rfl) fx_no) (fx_cnd (fx_cnd (fun _ _ _ _ _ _ _ _ => rfl) fx_no) (fx_cnd (fun _ _ _ _ _ _ _ _ => rfl) fx_no))))
theorem fk_7_5 (X : ez_X) (pc : Nat) : fx_ok X (ft_7_5 X pc) (ez_t7_5 pc) := by
  delta ft_7_5 ez_t7_5
  exact fx_cnd (fk_7_3 X pc) (fk_7_4 X pc)
theorem fk_7 (X : ez_X) (pc : Nat) : fx_ok X (ft_7 X pc) (ez_t7 pc) := by
  delta ft_7 ez_t7
  exact fx_cnd (fk_7_2 X pc) (fk_7_5 X pc)
theorem fk_8_0 (X : ez_X) (pc : Nat) : fx_ok X (ft_8_0 X pc) (ez_t8_0 pc) := by
  delta ft_8_0 ez_t8_0
  exact fx_cnd (fx_cnd (fx_cnd (fx_cnd (fun _ _ _ _ _ _ _ _ => rfl) fx_no) (fx_cnd (fun _ _ _ _ _ _ _ _ => rfl) fx_no)) (fx_cnd (fx_cnd (fun _ _ _ _ _ _ _ _ => rfl) fx_no) (fx_cnd (fx_cnd (fun _ _ _ _ _ _ _ _ => rfl) fx_no) (fx_cnd (fun _ _ _ _ _ _ _ _ => rfl) fx_no)))) (fx_cnd (fx_cnd (fx_cnd (fun _ _ _ _ _ _ _ _ => rfl) fx_no) (fx_cnd (fx_cnd (fun _ _ _ _ _ _ _ _ => rfl) fx_no) (fx_cnd (fun _ _ _ _ _ _ _ _ => rfl) fx_no))) (fx_cnd (fx_cnd (fun _ _ _ _ _ _ _ _ => rfl) fx_no) (fx_cnd (fx_cnd (fun _ _ _ _ _ _ _ _ => rfl) fx_no) (fx_cnd (fun _ _ _ _ _ _ _ _ => rfl) fx_no))))
theorem fk_8_1 (X : ez_X) (pc : Nat) : fx_ok X (ft_8_1 X pc) (ez_t8_1 pc) := by
  delta ft_8_1 ez_t8_1
  exact fx_cnd (fx_cnd (fx_cnd (fx_cnd (fun _ _ _ _ _ _ _ _ => rfl) fx_no) (fx_cnd (fx_cnd (fun _ _ _ _ _ _ _ _ => rfl) fx_no) (fx_cnd (fun _ _ _ _ _ _ _ _ => rfl) fx_no))) (fx_cnd (fx_cnd (fun _ _ _ _ _ _ _ _ => rfl) fx_no) (fx_cnd (fx_cnd (fun _ _ _ _ _ _ _ _ => rfl) fx_no) (fx_cnd (fun _ _ _ _ _ _ _ _ => rfl) fx_no)))) (fx_cnd (fx_cnd (fx_cnd (fun _ _ _ _ _ _ _ _ => rfl) fx_no) (fx_cnd (fx_cnd (fun _ _ _ _ _ _ _ _ => rfl) fx_no) (fx_cnd (fun _ _ _ _ _ _ _ _ => rfl) fx_no))) (fx_cnd (fx_cnd (fun _ _ _ _ _ _ _ _ => rfl) fx_no) (fx_cnd (fx_cnd (fun _ _ _ _ _ _ _ _ => rfl) fx_no) (fx_cnd (fun _ _ _ _ _ _ _ _ => rfl) fx_no))))
theorem fk_8 (X : ez_X) (pc : Nat) : fx_ok X (ft_8 X pc) (ez_t8 pc) := by
  delta ft_8 ez_t8
  exact fx_cnd (fk_8_0 X pc) (fk_8_1 X pc)
theorem fk_9_0 (X : ez_X) (pc : Nat) : fx_ok X (ft_9_0 X pc) (ez_t9_0 pc) := by
  delta ft_9_0 ez_t9_0
  exact fx_cnd (fx_cnd (fx_cnd (fx_cnd (fun _ _ _ _ _ _ _ _ => rfl) fx_no) (fx_cnd (fun _ _ _ _ _ _ _ _ => rfl) fx_no)) (fx_cnd (fx_cnd (fun _ _ _ _ _ _ _ _ => rfl) fx_no) (fx_cnd (fx_cnd (fun _ _ _ _ _ _ _ _ => rfl) fx_no) (fx_cnd (fun _ _ _ _ _ _ _ _ => rfl) fx_no)))) (fx_cnd (fx_cnd (fx_cnd (fun _ _ _ _ _ _ _ _ => rfl) fx_no) (fx_cnd (fx_cnd (fun _ _ _ _ _ _ _ _ => rfl) fx_no) (fx_cnd (fun _ _ _ _ _ _ _ _ => rfl) fx_no))) (fx_cnd (fx_cnd (fun _ _ _ _ _ _ _ _ => rfl) fx_no) (fx_cnd (fx_cnd (fun _ _ _ _ _ _ _ _ => rfl) fx_no) (fx_cnd (fun _ _ _ _ _ _ _ _ => rfl) fx_no))))
theorem fk_9_1 (X : ez_X) (pc : Nat) : fx_ok X (ft_9_1 X pc) (ez_t9_1 pc) := by
  delta ft_9_1 ez_t9_1
  exact fx_cnd (fx_cnd (fx_cnd (fx_cnd (fun _ _ _ _ _ _ _ _ => rfl) fx_no) (fx_cnd (fun _ _ _ _ _ _ _ _ => rfl) fx_no)) (fx_cnd (fx_cnd (fun _ _ _ _ _ _ _ _ => rfl) fx_no) (fx_cnd (fx_cnd (fun _ _ _ _ _ _ _ _ => rfl) fx_no) (fx_cnd (fun _ _ _ _ _ _ _ _ => rfl) fx_no)))) (fx_cnd (fx_cnd (fx_cnd (fun _ _ _ _ _ _ _ _ => rfl) fx_no) (fx_cnd (fx_cnd (fun _ _ _ _ _ _ _ _ => rfl) fx_no) (fx_cnd (fun _ _ _ _ _ _ _ _ => rfl) fx_no))) (fx_cnd (fx_cnd (fun _ _ _ _ _ _ _ _ => rfl) fx_no) (fx_cnd (fx_cnd (fun _ _ _ _ _ _ _ _ => rfl) fx_no) (fx_cnd (fun _ _ _ _ _ _ _ _ => rfl) fx_no))))
theorem fk_9 (X : ez_X) (pc : Nat) : fx_ok X (ft_9 X pc) (ez_t9 pc) := by
  delta ft_9 ez_t9
  exact fx_cnd (fk_9_0 X pc) (fk_9_1 X pc)
theorem fk_10 (X : ez_X) (pc : Nat) : fx_ok X (ft_10 X pc) (ez_t10 pc) := by
  delta ft_10 ez_t10
  exact fx_cnd (fx_cnd (fx_cnd (fx_cnd (fun _ _ _ _ _ _ _ _ => rfl) fx_no) (fx_cnd (fx_cnd (fun _ _ _ _ _ _ _ _ => rfl) fx_no) (fx_cnd (fun _ _ _ _ _ _ _ _ => rfl) fx_no))) (fx_cnd (fx_cnd (fun _ _ _ _ _ _ _ _ => rfl) fx_no) (fx_cnd (fx_cnd (fun _ _ _ _ _ _ _ _ => rfl) fx_no) (fx_cnd (fun _ _ _ _ _ _ _ _ => rfl) fx_no)))) (fx_cnd (fx_cnd (fx_cnd (fun _ _ _ _ _ _ _ _ => rfl) fx_no) (fx_cnd (fx_cnd (fun _ _ _ _ _ _ _ _ => rfl) fx_no) (fx_cnd (fun _ _ _ _ _ _ _ _ => rfl) fx_no))) (fx_cnd (fx_cnd (fun _ _ _ _ _ _ _ _ => rfl) fx_no) (fx_cnd (fx_cnd (fun _ _ _ _ _ _ _ _ => rfl) fx_no) (fx_cnd (fun _ _ _ _ _ _ _ _ => rfl) fx_no))))
theorem fk_11_0 (X : ez_X) (pc : Nat) : fx_ok X (ft_11_0 X pc) (ez_t11_0 pc) := by
  delta ft_11_0 ez_t11_0
  exact fx_cnd (fx_cnd (fx_cnd (fx_cnd (fun _ _ _ _ _ _ _ _ => rfl) fx_no) (fx_cnd (fx_cnd (fun _ _ _ _ _ _ _ _ => rfl) fx_no) (fx_cnd (fun _ _ _ _ _ _ _ _ => rfl) fx_no))) (fx_cnd (fx_cnd (fun _ _ _ _ _ _ _ _ => rfl) fx_no) (fx_cnd (fx_cnd (fun _ _ _ _ _ _ _ _ => rfl) fx_no) (fx_cnd (fun _ _ _ _ _ _ _ _ => rfl) fx_no)))) (fx_cnd (fx_cnd (fx_cnd (fun _ _ _ _ _ _ _ _ => rfl) fx_no) (fx_cnd (fx_cnd (fun _ _ _ _ _ _ _ _ => rfl) fx_no) (fx_cnd (fun _ _ _ _ _ _ _ _ => rfl) fx_no))) (fx_cnd (fx_cnd (fun _ _ _ _ _ _ _ _ => rfl) fx_no) (fx_cnd (fx_cnd (fun _ _ _ _ _ _ _ _ => rfl) fx_no) (fx_cnd (fun _ _ _ _ _ _ _ _ => rfl) fx_no))))
theorem fk_11_1 (X : ez_X) (pc : Nat) : fx_ok X (ft_11_1 X pc) (ez_t11_1 pc) := by
  delta ft_11_1 ez_t11_1
  exact fx_cnd (fx_cnd (fx_cnd (fx_cnd (fun _ _ _ _ _ _ _ _ => rfl) fx_no) (fx_cnd (fx_cnd (fun _ _ _ _ _ _ _ _ => rfl) fx_no) (fx_cnd (fun _ _ _ _ _ _ _ _ => rfl) fx_no))) (fx_cnd (fx_cnd (fun _ _ _ _ _ _ _ _ => rfl) fx_no) (fx_cnd (fx_cnd (fun _ _ _ _ _ _ _ _ => rfl) fx_no) (fx_cnd (fun _ _ _ _ _ _ _ _ => rfl) fx_no)))) (fx_cnd (fx_cnd (fx_cnd (fun _ _ _ _ _ _ _ _ => rfl) fx_no) (fx_cnd (fx_cnd (fun _ _ _ _ _ _ _ _ => rfl) fx_no) (fx_cnd (fun _ _ _ _ _ _ _ _ => rfl) fx_no))) (fx_cnd (fx_cnd (fun _ _ _ _ _ _ _ _ => rfl) fx_no) (fx_cnd (fx_cnd (fun _ _ _ _ _ _ _ _ => rfl) fx_no) (fx_cnd (fun _ _ _ _ _ _ _ _ => rfl) fx_no))))
theorem fk_11 (X : ez_X) (pc : Nat) : fx_ok X (ft_11 X pc) (ez_t11 pc) := by
  delta ft_11 ez_t11
  exact fx_cnd (fk_11_0 X pc) (fk_11_1 X pc)
theorem fk_12 (X : ez_X) (pc : Nat) : fx_ok X (ft_12 X pc) (ez_t12 pc) := by
  delta ft_12 ez_t12
  exact fx_cnd (fx_cnd (fx_cnd (fun _ _ _ _ _ _ _ _ => rfl) fx_no) (fx_cnd (fx_cnd (fun _ _ _ _ _ _ _ _ => rfl) fx_no) (fx_cnd (fun _ _ _ _ _ _ _ _ => rfl) fx_no))) (fx_cnd (fx_cnd (fun _ _ _ _ _ _ _ _ => rfl) fx_no) (fx_cnd (fx_cnd (fun _ _ _ _ _ _ _ _ => rfl) fx_no) (fx_cnd (fun _ _ _ _ _ _ _ _ => rfl) fx_no)))
theorem fk_13_0 (X : ez_X) (pc : Nat) : fx_ok X (ft_13_0 X pc) (ez_t13_0 pc) := by
  delta ft_13_0 ez_t13_0
  exact fx_cnd (fx_cnd (fx_cnd (fx_cnd (fun _ _ _ _ _ _ _ _ => rfl) fx_no) (fx_cnd (fun _ _ _ _ _ _ _ _ => rfl) fx_no)) (fx_cnd (fx_cnd (fun _ _ _ _ _ _ _ _ => rfl) fx_no) (fx_cnd (fun _ _ _ _ _ _ _ _ => rfl) fx_no))) (fx_cnd (fx_cnd (fx_cnd (fun _ _ _ _ _ _ _ _ => rfl) fx_no) (fx_cnd (fun _ _ _ _ _ _ _ _ => rfl) fx_no)) (fx_cnd (fx_cnd (fun _ _ _ _ _ _ _ _ => rfl) fx_no) (fx_cnd (fun _ _ _ _ _ _ _ _ => rfl) fx_no)))
theorem fk_13_1 (X : ez_X) (pc : Nat) : fx_ok X (ft_13_1 X pc) (ez_t13_1 pc) := by
  delta ft_13_1 ez_t13_1
  exact fx_cnd (fx_cnd (fx_cnd (fx_cnd (fun _ _ _ _ _ _ _ _ => rfl) fx_no) (fx_cnd (fun _ _ _ _ _ _ _ _ => rfl) fx_no)) (fx_cnd (fx_cnd (fun _ _ _ _ _ _ _ _ => rfl) fx_no) (fx_cnd (fun _ _ _ _ _ _ _ _ => rfl) fx_no))) (fx_cnd (fx_cnd (fx_cnd (fun _ _ _ _ _ _ _ _ => rfl) fx_no) (fx_cnd (fun _ _ _ _ _ _ _ _ => rfl) fx_no)) (fx_cnd (fx_cnd (fun _ _ _ _ _ _ _ _ => rfl) fx_no) (fx_cnd (fun _ _ _ _ _ _ _ _ => rfl) fx_no)))
theorem fk_13 (X : ez_X) (pc : Nat) : fx_ok X (ft_13 X pc) (ez_t13 pc) := by
  delta ft_13 ez_t13
  exact fx_cnd (fk_13_0 X pc) (fk_13_1 X pc)
theorem fk_14_0 (X : ez_X) (pc : Nat) : fx_ok X (ft_14_0 X pc) (ez_t14_0 pc) := by
  delta ft_14_0 ez_t14_0
  exact fx_cnd (fx_cnd (fx_cnd (fx_cnd (fun _ _ _ _ _ _ _ _ => rfl) fx_no) (fx_cnd (fx_cnd (fun _ _ _ _ _ _ _ _ => rfl) fx_no) (fx_cnd (fun _ _ _ _ _ _ _ _ => rfl) fx_no))) (fx_cnd (fx_cnd (fun _ _ _ _ _ _ _ _ => rfl) fx_no) (fx_cnd (fx_cnd (fun _ _ _ _ _ _ _ _ => rfl) fx_no) (fx_cnd (fun _ _ _ _ _ _ _ _ => rfl) fx_no)))) (fx_cnd (fx_cnd (fx_cnd (fun _ _ _ _ _ _ _ _ => rfl) fx_no) (fx_cnd (fx_cnd (fun _ _ _ _ _ _ _ _ => rfl) fx_no) (fx_cnd (fun _ _ _ _ _ _ _ _ => rfl) fx_no))) (fx_cnd (fx_cnd (fun _ _ _ _ _ _ _ _ => rfl) fx_no) (fx_cnd (fx_cnd (fun _ _ _ _ _ _ _ _ => rfl) fx_no) (fx_cnd (fun _ _ _ _ _ _ _ _ => rfl) fx_no))))
theorem fk_14_1 (X : ez_X) (pc : Nat) : fx_ok X (ft_14_1 X pc) (ez_t14_1 pc) := by
  delta ft_14_1 ez_t14_1
  exact fx_cnd (fx_cnd (fx_cnd (fx_cnd (fun _ _ _ _ _ _ _ _ => rfl) fx_no) (fx_cnd (fx_cnd (fun _ _ _ _ _ _ _ _ => rfl) fx_no) (fx_cnd (fun _ _ _ _ _ _ _ _ => rfl) fx_no))) (fx_cnd (fx_cnd (fun _ _ _ _ _ _ _ _ => rfl) fx_no) (fx_cnd (fx_cnd (fun _ _ _ _ _ _ _ _ => rfl) fx_no) (fx_cnd (fun _ _ _ _ _ _ _ _ => rfl) fx_no)))) (fx_cnd (fx_cnd (fx_cnd (fun _ _ _ _ _ _ _ _ => rfl) fx_no) (fx_cnd (fx_cnd (fun _ _ _ _ _ _ _ _ => rfl) fx_no) (fx_cnd (fun _ _ _ _ _ _ _ _ => rfl) fx_no))) (fx_cnd (fx_cnd (fun _ _ _ _ _ _ _ _ => rfl) fx_no) (fx_cnd (fx_cnd (fun _ _ _ _ _ _ _ _ => rfl) fx_no) (fx_cnd (fun _ _ _ _ _ _ _ _ => rfl) fx_no))))
theorem fk_14 (X : ez_X) (pc : Nat) : fx_ok X (ft_14 X pc) (ez_t14 pc) := by
  delta ft_14 ez_t14
  exact fx_cnd (fk_14_0 X pc) (fk_14_1 X pc)
theorem fk_15 (X : ez_X) (pc : Nat) : fx_ok X (ft_15 X pc) (ez_t15 pc) := by
  delta ft_15 ez_t15
  exact fx_cnd (fx_cnd (fx_cnd (fx_cnd (fun _ _ _ _ _ _ _ _ => rfl) fx_no) (fx_cnd (fx_cnd (fun _ _ _ _ _ _ _ _ => rfl) fx_no) (fx_cnd (fun _ _ _ _ _ _ _ _ => rfl) fx_no))) (fx_cnd (fx_cnd (fun _ _ _ _ _ _ _ _ => rfl) fx_no) (fx_cnd (fx_cnd (fun _ _ _ _ _ _ _ _ => rfl) fx_no) (fx_cnd (fun _ _ _ _ _ _ _ _ => rfl) fx_no)))) (fx_cnd (fx_cnd (fx_cnd (fun _ _ _ _ _ _ _ _ => rfl) fx_no) (fx_cnd (fx_cnd (fun _ _ _ _ _ _ _ _ => rfl) fx_no) (fx_cnd (fun _ _ _ _ _ _ _ _ => rfl) fx_no))) (fx_cnd (fx_cnd (fun _ _ _ _ _ _ _ _ => rfl) fx_no) (fx_cnd (fx_cnd (fun _ _ _ _ _ _ _ _ => rfl) fx_no) (fx_cnd (fun _ _ _ _ _ _ _ _ => rfl) fx_no))))
theorem fk_16_0 (X : ez_X) (pc : Nat) : fx_ok X (ft_16_0 X pc) (ez_t16_0 pc) := by
  delta ft_16_0 ez_t16_0
  exact fx_cnd (fx_cnd (fx_cnd (fun _ _ _ _ _ _ _ _ => rfl) fx_no) (fx_cnd (fx_cnd (fun _ _ _ _ _ _ _ _ => rfl) fx_no) (fx_cnd (fun _ _ _ _ _ _ _ _ => rfl) fx_no))) (fx_cnd (fx_cnd (fun _ _ _ _ _ _ _ _ => rfl) fx_no) (fx_cnd (fx_cnd (fun _ _ _ _ _ _ _ _ => rfl) fx_no) (fx_cnd (fun _ _ _ _ _ _ _ _ => rfl) fx_no)))
theorem fk_16_1 (X : ez_X) (pc : Nat) : fx_ok X (ft_16_1 X pc) (ez_t16_1 pc) := by
  delta ft_16_1 ez_t16_1
  exact fx_cnd (fx_cnd (fx_cnd (fun _ _ _ _ _ _ _ _ => rfl) fx_no) (fx_cnd (fx_cnd (fun _ _ _ _ _ _ _ _ => rfl) fx_no) (fx_cnd (fun _ _ _ _ _ _ _ _ => rfl) fx_no))) (fx_cnd (fx_cnd (fx_cnd (fun _ _ _ _ _ _ _ _ => rfl) fx_no) (fx_cnd (fun _ _ _ _ _ _ _ _ => rfl) fx_no)) (fx_cnd (fx_cnd (fun _ _ _ _ _ _ _ _ => rfl) fx_no) (fx_cnd (fun _ _ _ _ _ _ _ _ => rfl) fx_no)))
theorem fk_16_2 (X : ez_X) (pc : Nat) : fx_ok X (ft_16_2 X pc) (ez_t16_2 pc) := by
  delta ft_16_2 ez_t16_2
  exact fx_cnd (fk_16_0 X pc) (fk_16_1 X pc)
theorem fk_16_3 (X : ez_X) (pc : Nat) : fx_ok X (ft_16_3 X pc) (ez_t16_3 pc) := by
  delta ft_16_3 ez_t16_3
  exact fx_cnd (fx_cnd (fx_cnd (fun _ _ _ _ _ _ _ _ => rfl) fx_no) (fx_cnd (fx_cnd (fun _ _ _ _ _ _ _ _ => rfl) fx_no) (fx_cnd (fun _ _ _ _ _ _ _ _ => rfl) fx_no))) (fx_cnd (fx_cnd (fx_cnd (fun _ _ _ _ _ _ _ _ => rfl) fx_no) (fx_cnd (fun _ _ _ _ _ _ _ _ => rfl) fx_no)) (fx_cnd (fx_cnd (fun _ _ _ _ _ _ _ _ => rfl) fx_no) (fx_cnd (fun _ _ _ _ _ _ _ _ => rfl) fx_no)))
theorem fk_16_4 (X : ez_X) (pc : Nat) : fx_ok X (ft_16_4 X pc) (ez_t16_4 pc) := by
  delta ft_16_4 ez_t16_4
  exact fx_cnd (fx_cnd (fx_cnd (fun _ _ _ _ _ _ _ _ => rfl) fx_no) (fx_cnd (fx_cnd (fun _ _ _ _ _ _ _ _ => rfl) fx_no) (fx_cnd (fun _ _ _ _ _ _ _ _ => rfl) fx_no))) (fx_cnd (fx_cnd (fx_cnd (fun _ _ _ _ _ _ _ _ => rfl) fx_no) (fx_cnd (fun _ _ _ _ _ _ _ _ => rfl) fx_no)) (fx_cnd (fx_cnd (fun _ _ _ _ _ _ _ _ => rfl) fx_no) (fx_cnd (fun _ _ _ _ _ _ _ _ => rfl) fx_no)))
theorem fk_16_5 (X : ez_X) (pc : Nat) : fx_ok X (ft_16_5 X pc) (ez_t16_5 pc) := by
  delta ft_16_5 ez_t16_5
  exact fx_cnd (fk_16_3 X pc) (fk_16_4 X pc)
theorem fk_16 (X : ez_X) (pc : Nat) : fx_ok X (ft_16 X pc) (ez_t16 pc) := by
  delta ft_16 ez_t16
  exact fx_cnd (fk_16_2 X pc) (fk_16_5 X pc)
theorem fk_17 (X : ez_X) (pc : Nat) : fx_ok X (ft_17 X pc) (ez_t17 pc) := by
  delta ft_17 ez_t17
  exact fx_cnd (fx_cnd (fx_cnd (fx_cnd (fun _ _ _ _ _ _ _ _ => rfl) fx_no) (fx_cnd (fun _ _ _ _ _ _ _ _ => rfl) fx_no)) (fx_cnd (fx_cnd (fun _ _ _ _ _ _ _ _ => rfl) fx_no) (fx_cnd (fun _ _ _ _ _ _ _ _ => rfl) fx_no))) (fx_cnd (fx_cnd (fx_cnd (fun _ _ _ _ _ _ _ _ => rfl) fx_no) (fx_cnd (fun _ _ _ _ _ _ _ _ => rfl) fx_no)) (fx_cnd (fx_cnd (fun _ _ _ _ _ _ _ _ => rfl) fx_no) (fx_cnd (fx_cnd (fun _ _ _ _ _ _ _ _ => rfl) fx_no) (fx_cnd (fun _ _ _ _ _ _ _ _ => rfl) fx_no))))
theorem fk_18_0 (X : ez_X) (pc : Nat) : fx_ok X (ft_18_0 X pc) (ez_t18_0 pc) := by
  delta ft_18_0 ez_t18_0
  exact fx_cnd (fx_cnd (fx_cnd (fx_cnd (fun _ _ _ _ _ _ _ _ => rfl) fx_no) (fx_cnd (fun _ _ _ _ _ _ _ _ => rfl) fx_no)) (fx_cnd (fx_cnd (fun _ _ _ _ _ _ _ _ => rfl) fx_no) (fx_cnd (fun _ _ _ _ _ _ _ _ => rfl) fx_no))) (fx_cnd (fx_cnd (fx_cnd (fun _ _ _ _ _ _ _ _ => rfl) fx_no) (fx_cnd (fun _ _ _ _ _ _ _ _ => rfl) fx_no)) (fx_cnd (fx_cnd (fun _ _ _ _ _ _ _ _ => rfl) fx_no) (fx_cnd (fun _ _ _ _ _ _ _ _ => rfl) fx_no)))
theorem fk_18_1 (X : ez_X) (pc : Nat) : fx_ok X (ft_18_1 X pc) (ez_t18_1 pc) := by
  delta ft_18_1 ez_t18_1
  exact fx_cnd (fx_cnd (fx_cnd (fx_cnd (fun _ _ _ _ _ _ _ _ => rfl) fx_no) (fx_cnd (fun _ _ _ _ _ _ _ _ => rfl) fx_no)) (fx_cnd (fx_cnd (fun _ _ _ _ _ _ _ _ => rfl) fx_no) (fx_cnd (fun _ _ _ _ _ _ _ _ => rfl) fx_no))) (fx_cnd (fx_cnd (fx_cnd (fun _ _ _ _ _ _ _ _ => rfl) fx_no) (fx_cnd (fun _ _ _ _ _ _ _ _ => rfl) fx_no)) (fx_cnd (fx_cnd (fun _ _ _ _ _ _ _ _ => rfl) fx_no) (fx_cnd (fun _ _ _ _ _ _ _ _ => rfl) fx_no)))
theorem fk_18_2 (X : ez_X) (pc : Nat) : fx_ok X (ft_18_2 X pc) (ez_t18_2 pc) := by
  delta ft_18_2 ez_t18_2
  exact fx_cnd (fk_18_0 X pc) (fk_18_1 X pc)
theorem fk_18_3 (X : ez_X) (pc : Nat) : fx_ok X (ft_18_3 X pc) (ez_t18_3 pc) := by
  delta ft_18_3 ez_t18_3
  exact fx_cnd (fx_cnd (fx_cnd (fx_cnd (fun _ _ _ _ _ _ _ _ => rfl) fx_no) (fx_cnd (fun _ _ _ _ _ _ _ _ => rfl) fx_no)) (fx_cnd (fx_cnd (fun _ _ _ _ _ _ _ _ => rfl) fx_no) (fx_cnd (fun _ _ _ _ _ _ _ _ => rfl) fx_no))) (fx_cnd (fx_cnd (fx_cnd (fun _ _ _ _ _ _ _ _ => rfl) fx_no) (fx_cnd (fun _ _ _ _ _ _ _ _ => rfl) fx_no)) (fx_cnd (fx_cnd (fun _ _ _ _ _ _ _ _ => rfl) fx_no) (fx_cnd (fun _ _ _ _ _ _ _ _ => rfl) fx_no)))
theorem fk_18_4 (X : ez_X) (pc : Nat) : fx_ok X (ft_18_4 X pc) (ez_t18_4 pc) := by
  delta ft_18_4 ez_t18_4
  exact fx_cnd (fx_cnd (fx_cnd (fx_cnd (fun _ _ _ _ _ _ _ _ => rfl) fx_no) (fx_cnd (fun _ _ _ _ _ _ _ _ => rfl) fx_no)) (fx_cnd (fx_cnd (fun _ _ _ _ _ _ _ _ => rfl) fx_no) (fx_cnd (fun _ _ _ _ _ _ _ _ => rfl) fx_no))) (fx_cnd (fx_cnd (fx_cnd (fun _ _ _ _ _ _ _ _ => rfl) fx_no) (fx_cnd (fun _ _ _ _ _ _ _ _ => rfl) fx_no)) (fx_cnd (fx_cnd (fun _ _ _ _ _ _ _ _ => rfl) fx_no) (fx_cnd (fx_cnd (fun _ _ _ _ _ _ _ _ => rfl) fx_no) (fx_cnd (fun _ _ _ _ _ _ _ _ => rfl) fx_no))))
theorem fk_18_5 (X : ez_X) (pc : Nat) : fx_ok X (ft_18_5 X pc) (ez_t18_5 pc) := by
  delta ft_18_5 ez_t18_5
  exact fx_cnd (fk_18_3 X pc) (fk_18_4 X pc)
theorem fk_18 (X : ez_X) (pc : Nat) : fx_ok X (ft_18 X pc) (ez_t18 pc) := by
  delta ft_18 ez_t18
  exact fx_cnd (fk_18_2 X pc) (fk_18_5 X pc)
theorem fk_19 (X : ez_X) (pc : Nat) : fx_ok X (ft_19 X pc) (ez_t19 pc) := by
  delta ft_19 ez_t19
  exact fx_cnd (fx_cnd (fx_cnd (fx_cnd (fun _ _ _ _ _ _ _ _ => rfl) fx_no) (fx_cnd (fun _ _ _ _ _ _ _ _ => rfl) fx_no)) (fx_cnd (fx_cnd (fun _ _ _ _ _ _ _ _ => rfl) fx_no) (fx_cnd (fx_cnd (fun _ _ _ _ _ _ _ _ => rfl) fx_no) (fx_cnd (fun _ _ _ _ _ _ _ _ => rfl) fx_no)))) (fx_cnd (fx_cnd (fx_cnd (fun _ _ _ _ _ _ _ _ => rfl) fx_no) (fx_cnd (fun _ _ _ _ _ _ _ _ => rfl) fx_no)) (fx_cnd (fx_cnd (fun _ _ _ _ _ _ _ _ => rfl) fx_no) (fx_cnd (fx_cnd (fun _ _ _ _ _ _ _ _ => rfl) fx_no) (fx_cnd (fun _ _ _ _ _ _ _ _ => rfl) fx_no))))
theorem fk_20_0 (X : ez_X) (pc : Nat) : fx_ok X (ft_20_0 X pc) (ez_t20_0 pc) := by
  delta ft_20_0 ez_t20_0
  exact fx_cnd (fx_cnd (fx_cnd (fx_cnd (fun _ _ _ _ _ _ _ _ => rfl) fx_no) (fx_cnd (fun _ _ _ _ _ _ _ _ => rfl) fx_no)) (fx_cnd (fx_cnd (fun _ _ _ _ _ _ _ _ => rfl) fx_no) (fx_cnd (fx_cnd (fun _ _ _ _ _ _ _ _ => rfl) fx_no) (fx_cnd (fun _ _ _ _ _ _ _ _ => rfl) fx_no)))) (fx_cnd (fx_cnd (fx_cnd (fun _ _ _ _ _ _ _ _ => rfl) fx_no) (fx_cnd (fun _ _ _ _ _ _ _ _ => rfl) fx_no)) (fx_cnd (fx_cnd (fun _ _ _ _ _ _ _ _ => rfl) fx_no) (fx_cnd (fx_cnd (fun _ _ _ _ _ _ _ _ => rfl) fx_no) (fx_cnd (fun _ _ _ _ _ _ _ _ => rfl) fx_no))))
theorem fk_20_1 (X : ez_X) (pc : Nat) : fx_ok X (ft_20_1 X pc) (ez_t20_1 pc) := by
  delta ft_20_1 ez_t20_1
  exact fx_cnd (fx_cnd (fx_cnd (fx_cnd (fun _ _ _ _ _ _ _ _ => rfl) fx_no) (fx_cnd (fun _ _ _ _ _ _ _ _ => rfl) fx_no)) (fx_cnd (fx_cnd (fun _ _ _ _ _ _ _ _ => rfl) fx_no) (fx_cnd (fx_cnd (fun _ _ _ _ _ _ _ _ => rfl) fx_no) (fx_cnd (fun _ _ _ _ _ _ _ _ => rfl) fx_no)))) (fx_cnd (fx_cnd (fx_cnd (fun _ _ _ _ _ _ _ _ => rfl) fx_no) (fx_cnd (fun _ _ _ _ _ _ _ _ => rfl) fx_no)) (fx_cnd (fx_cnd (fun _ _ _ _ _ _ _ _ => rfl) fx_no) (fx_cnd (fx_cnd (fun _ _ _ _ _ _ _ _ => rfl) fx_no) (fx_cnd (fun _ _ _ _ _ _ _ _ => rfl) fx_no))))
theorem fk_20_2 (X : ez_X) (pc : Nat) : fx_ok X (ft_20_2 X pc) (ez_t20_2 pc) := by
  delta ft_20_2 ez_t20_2
  exact fx_cnd (fk_20_0 X pc) (fk_20_1 X pc)
theorem fk_20_3 (X : ez_X) (pc : Nat) : fx_ok X (ft_20_3 X pc) (ez_t20_3 pc) := by
  delta ft_20_3 ez_t20_3
  exact fx_cnd (fx_cnd (fx_cnd (fx_cnd (fun _ _ _ _ _ _ _ _ => rfl) fx_no) (fx_cnd (fun _ _ _ _ _ _ _ _ => rfl) fx_no)) (fx_cnd (fx_cnd (fun _ _ _ _ _ _ _ _ => rfl) fx_no) (fx_cnd (fx_cnd (fun _ _ _ _ _ _ _ _ => rfl) fx_no) (fx_cnd (fun _ _ _ _ _ _ _ _ => rfl) fx_no)))) (fx_cnd (fx_cnd (fx_cnd (fun _ _ _ _ _ _ _ _ => rfl) fx_no) (fx_cnd (fun _ _ _ _ _ _ _ _ => rfl) fx_no)) (fx_cnd (fx_cnd (fun _ _ _ _ _ _ _ _ => rfl) fx_no) (fx_cnd (fx_cnd (fun _ _ _ _ _ _ _ _ => rfl) fx_no) (fx_cnd (fun _ _ _ _ _ _ _ _ => rfl) fx_no))))
theorem fk_20_4 (X : ez_X) (pc : Nat) : fx_ok X (ft_20_4 X pc) (ez_t20_4 pc) := by
  delta ft_20_4 ez_t20_4
  exact fx_cnd (fx_cnd (fx_cnd (fx_cnd (fun _ _ _ _ _ _ _ _ => rfl) fx_no) (fx_cnd (fun _ _ _ _ _ _ _ _ => rfl) fx_no)) (fx_cnd (fx_cnd (fun _ _ _ _ _ _ _ _ => rfl) fx_no) (fx_cnd (fx_cnd (fun _ _ _ _ _ _ _ _ => rfl) fx_no) (fx_cnd (fun _ _ _ _ _ _ _ _ => rfl) fx_no)))) (fx_cnd (fx_cnd (fx_cnd (fun _ _ _ _ _ _ _ _ => rfl) fx_no) (fx_cnd (fx_cnd (fun _ _ _ _ _ _ _ _ => rfl) fx_no) (fx_cnd (fun _ _ _ _ _ _ _ _ => rfl) fx_no))) (fx_cnd (fx_cnd (fun _ _ _ _ _ _ _ _ => rfl) fx_no) (fx_cnd (fx_cnd (fun _ _ _ _ _ _ _ _ => rfl) fx_no) (fx_cnd (fun _ _ _ _ _ _ _ _ => rfl) fx_no))))
theorem fk_20_5 (X : ez_X) (pc : Nat) : fx_ok X (ft_20_5 X pc) (ez_t20_5 pc) := by
  delta ft_20_5 ez_t20_5
  exact fx_cnd (fk_20_3 X pc) (fk_20_4 X pc)
theorem fk_20 (X : ez_X) (pc : Nat) : fx_ok X (ft_20 X pc) (ez_t20 pc) := by
  delta ft_20 ez_t20
  exact fx_cnd (fk_20_2 X pc) (fk_20_5 X pc)
theorem fk_21 (X : ez_X) (pc : Nat) : fx_ok X (ft_21 X pc) (ez_t21 pc) := by
  delta ft_21 ez_t21
  exact fx_cnd (fx_cnd (fx_cnd (fx_cnd (fun _ _ _ _ _ _ _ _ => rfl) fx_no) (fx_cnd (fun _ _ _ _ _ _ _ _ => rfl) fx_no)) (fx_cnd (fx_cnd (fun _ _ _ _ _ _ _ _ => rfl) fx_no) (fx_cnd (fun _ _ _ _ _ _ _ _ => rfl) fx_no))) (fx_cnd (fx_cnd (fx_cnd (fun _ _ _ _ _ _ _ _ => rfl) fx_no) (fx_cnd (fun _ _ _ _ _ _ _ _ => rfl) fx_no)) (fx_cnd (fx_cnd (fun _ _ _ _ _ _ _ _ => rfl) fx_no) (fx_cnd (fx_cnd (fun _ _ _ _ _ _ _ _ => rfl) fx_no) (fx_cnd (fun _ _ _ _ _ _ _ _ => rfl) fx_no))))
theorem fk_22 (X : ez_X) (pc : Nat) : fx_ok X (ft_22 X pc) (ez_t22 pc) := by
  delta ft_22 ez_t22
  exact fx_cnd (fx_cnd (fx_cnd (fx_cnd (fun _ _ _ _ _ _ _ _ => rfl) fx_no) (fx_cnd (fun _ _ _ _ _ _ _ _ => rfl) fx_no)) (fx_cnd (fx_cnd (fun _ _ _ _ _ _ _ _ => rfl) fx_no) (fx_cnd (fun _ _ _ _ _ _ _ _ => rfl) fx_no))) (fx_cnd (fx_cnd (fx_cnd (fun _ _ _ _ _ _ _ _ => rfl) fx_no) (fx_cnd (fun _ _ _ _ _ _ _ _ => rfl) fx_no)) (fx_cnd (fx_cnd (fun _ _ _ _ _ _ _ _ => rfl) fx_no) (fx_cnd (fx_cnd (fun _ _ _ _ _ _ _ _ => rfl) fx_no) (fx_cnd (fun _ _ _ _ _ _ _ _ => rfl) fx_no))))
theorem fk_23 (X : ez_X) (pc : Nat) : fx_ok X (ft_23 X pc) (ez_t23 pc) := by
  delta ft_23 ez_t23
  exact fx_cnd (fx_cnd (fx_cnd (fx_cnd (fun _ _ _ _ _ _ _ _ => rfl) fx_no) (fx_cnd (fun _ _ _ _ _ _ _ _ => rfl) fx_no)) (fx_cnd (fx_cnd (fun _ _ _ _ _ _ _ _ => rfl) fx_no) (fx_cnd (fun _ _ _ _ _ _ _ _ => rfl) fx_no))) (fx_cnd (fx_cnd (fx_cnd (fun _ _ _ _ _ _ _ _ => rfl) fx_no) (fx_cnd (fun _ _ _ _ _ _ _ _ => rfl) fx_no)) (fx_cnd (fx_cnd (fun _ _ _ _ _ _ _ _ => rfl) fx_no) (fx_cnd (fx_cnd (fun _ _ _ _ _ _ _ _ => rfl) fx_no) (fx_cnd (fun _ _ _ _ _ _ _ _ => rfl) fx_no))))
theorem fk_24 (X : ez_X) (pc : Nat) : fx_ok X (ft_24 X pc) (ez_t24 pc) := by
  delta ft_24 ez_t24
  exact fx_cnd (fx_cnd (fx_cnd (fx_cnd (fun _ _ _ _ _ _ _ _ => rfl) fx_no) (fx_cnd (fun _ _ _ _ _ _ _ _ => rfl) fx_no)) (fx_cnd (fx_cnd (fun _ _ _ _ _ _ _ _ => rfl) fx_no) (fx_cnd (fun _ _ _ _ _ _ _ _ => rfl) fx_no))) (fx_cnd (fx_cnd (fx_cnd (fun _ _ _ _ _ _ _ _ => rfl) fx_no) (fx_cnd (fun _ _ _ _ _ _ _ _ => rfl) fx_no)) (fx_cnd (fx_cnd (fun _ _ _ _ _ _ _ _ => rfl) fx_no) (fx_cnd (fx_cnd (fun _ _ _ _ _ _ _ _ => rfl) fx_no) (fx_cnd (fun _ _ _ _ _ _ _ _ => rfl) fx_no))))
theorem fk_25 (X : ez_X) (pc : Nat) : fx_ok X (ft_25 X pc) (ez_t25 pc) := by
  delta ft_25 ez_t25
  exact fx_cnd (fx_cnd (fx_cnd (fx_cnd (fun _ _ _ _ _ _ _ _ => rfl) fx_no) (fx_cnd (fun _ _ _ _ _ _ _ _ => rfl) fx_no)) (fx_cnd (fx_cnd (fun _ _ _ _ _ _ _ _ => rfl) fx_no) (fx_cnd (fun _ _ _ _ _ _ _ _ => rfl) fx_no))) (fx_cnd (fx_cnd (fx_cnd (fun _ _ _ _ _ _ _ _ => rfl) fx_no) (fx_cnd (fun _ _ _ _ _ _ _ _ => rfl) fx_no)) (fx_cnd (fx_cnd (fun _ _ _ _ _ _ _ _ => rfl) fx_no) (fx_cnd (fx_cnd (fun _ _ _ _ _ _ _ _ => rfl) fx_no) (fx_cnd (fun _ _ _ _ _ _ _ _ => rfl) fx_no))))
theorem fk_26_0 (X : ez_X) (pc : Nat) : fx_ok X (ft_26_0 X pc) (ez_t26_0 pc) := by
  delta ft_26_0 ez_t26_0
  exact fx_cnd (fx_cnd (fx_cnd (fx_cnd (fun _ _ _ _ _ _ _ _ => rfl) fx_no) (fx_cnd (fx_cnd (fun _ _ _ _ _ _ _ _ => rfl) fx_no) (fx_cnd (fun _ _ _ _ _ _ _ _ => rfl) fx_no))) (fx_cnd (fx_cnd (fun _ _ _ _ _ _ _ _ => rfl) fx_no) (fx_cnd (fx_cnd (fun _ _ _ _ _ _ _ _ => rfl) fx_no) (fx_cnd (fun _ _ _ _ _ _ _ _ => rfl) fx_no)))) (fx_cnd (fx_cnd (fx_cnd (fun _ _ _ _ _ _ _ _ => rfl) fx_no) (fx_cnd (fx_cnd (fun _ _ _ _ _ _ _ _ => rfl) fx_no) (fx_cnd (fun _ _ _ _ _ _ _ _ => rfl) fx_no))) (fx_cnd (fx_cnd (fun _ _ _ _ _ _ _ _ => rfl) fx_no) (fx_cnd (fx_cnd (fun _ _ _ _ _ _ _ _ => rfl) fx_no) (fx_cnd (fun _ _ _ _ _ _ _ _ => rfl) fx_no))))
theorem fk_26_1 (X : ez_X) (pc : Nat) : fx_ok X (ft_26_1 X pc) (ez_t26_1 pc) := by
  delta ft_26_1 ez_t26_1
  exact fx_cnd (fx_cnd (fx_cnd (fx_cnd (fun _ _ _ _ _ _ _ _ => rfl) fx_no) (fx_cnd (fx_cnd (fun _ _ _ _ _ _ _ _ => rfl) fx_no) (fx_cnd (fun _ _ _ _ _ _ _ _ => rfl) fx_no))) (fx_cnd (fx_cnd (fun _ _ _ _ _ _ _ _ => rfl) fx_no) (fx_cnd (fx_cnd (fun _ _ _ _ _ _ _ _ => rfl) fx_no) (fx_cnd (fun _ _ _ _ _ _ _ _ => rfl) fx_no)))) (fx_cnd (fx_cnd (fx_cnd (fun _ _ _ _ _ _ _ _ => rfl) fx_no) (fx_cnd (fx_cnd (fun _ _ _ _ _ _ _ _ => rfl) fx_no) (fx_cnd (fun _ _ _ _ _ _ _ _ => rfl) fx_no))) (fx_cnd (fx_cnd (fun _ _ _ _ _ _ _ _ => rfl) fx_no) (fx_cnd (fx_cnd (fun _ _ _ _ _ _ _ _ => rfl) fx_no) (fx_cnd (fun _ _ _ _ _ _ _ _ => rfl) fx_no))))
theorem fk_26 (X : ez_X) (pc : Nat) : fx_ok X (ft_26 X pc) (ez_t26 pc) := by
  delta ft_26 ez_t26
  exact fx_cnd (fk_26_0 X pc) (fk_26_1 X pc)
theorem fk_27 (X : ez_X) (pc : Nat) : fx_ok X (ft_27 X pc) (ez_t27 pc) := by
  delta ft_27 ez_t27
  exact fx_cnd (fx_cnd (fx_cnd (fx_cnd (fun _ _ _ _ _ _ _ _ => rfl) fx_no) (fx_cnd (fun _ _ _ _ _ _ _ _ => rfl) fx_no)) (fx_cnd (fx_cnd (fun _ _ _ _ _ _ _ _ => rfl) fx_no) (fx_cnd (fun _ _ _ _ _ _ _ _ => rfl) fx_no))) (fx_cnd (fx_cnd (fx_cnd (fun _ _ _ _ _ _ _ _ => rfl) fx_no) (fx_cnd (fun _ _ _ _ _ _ _ _ => rfl) fx_no)) (fx_cnd (fx_cnd (fun _ _ _ _ _ _ _ _ => rfl) fx_no) (fx_cnd (fx_cnd (fun _ _ _ _ _ _ _ _ => rfl) fx_no) (fx_cnd (fun _ _ _ _ _ _ _ _ => rfl) fx_no))))
theorem fk_28 (X : ez_X) (pc : Nat) : fx_ok X (ft_28 X pc) (ez_t28 pc) := by
  delta ft_28 ez_t28
  exact fx_cnd (fx_cnd (fx_cnd (fx_cnd (fun _ _ _ _ _ _ _ _ => rfl) fx_no) (fx_cnd (fun _ _ _ _ _ _ _ _ => rfl) fx_no)) (fx_cnd (fx_cnd (fun _ _ _ _ _ _ _ _ => rfl) fx_no) (fx_cnd (fun _ _ _ _ _ _ _ _ => rfl) fx_no))) (fx_cnd (fx_cnd (fx_cnd (fun _ _ _ _ _ _ _ _ => rfl) fx_no) (fx_cnd (fun _ _ _ _ _ _ _ _ => rfl) fx_no)) (fx_cnd (fx_cnd (fun _ _ _ _ _ _ _ _ => rfl) fx_no) (fx_cnd (fx_cnd (fun _ _ _ _ _ _ _ _ => rfl) fx_no) (fx_cnd (fun _ _ _ _ _ _ _ _ => rfl) fx_no))))
theorem fk_29 (X : ez_X) (pc : Nat) : fx_ok X (ft_29 X pc) (ez_t29 pc) := by
  delta ft_29 ez_t29
  exact fx_cnd (fx_cnd (fx_cnd (fx_cnd (fun _ _ _ _ _ _ _ _ => rfl) fx_no) (fx_cnd (fun _ _ _ _ _ _ _ _ => rfl) fx_no)) (fx_cnd (fx_cnd (fun _ _ _ _ _ _ _ _ => rfl) fx_no) (fx_cnd (fun _ _ _ _ _ _ _ _ => rfl) fx_no))) (fx_cnd (fx_cnd (fx_cnd (fun _ _ _ _ _ _ _ _ => rfl) fx_no) (fx_cnd (fun _ _ _ _ _ _ _ _ => rfl) fx_no)) (fx_cnd (fx_cnd (fun _ _ _ _ _ _ _ _ => rfl) fx_no) (fx_cnd (fx_cnd (fun _ _ _ _ _ _ _ _ => rfl) fx_no) (fx_cnd (fun _ _ _ _ _ _ _ _ => rfl) fx_no))))
theorem fk_30 (X : ez_X) (pc : Nat) : fx_ok X (ft_30 X pc) (ez_t30 pc) := by
  delta ft_30 ez_t30
  exact fx_cnd (fx_cnd (fx_cnd (fx_cnd (fun _ _ _ _ _ _ _ _ => rfl) fx_no) (fx_cnd (fun _ _ _ _ _ _ _ _ => rfl) fx_no)) (fx_cnd (fx_cnd (fun _ _ _ _ _ _ _ _ => rfl) fx_no) (fx_cnd (fx_cnd (fun _ _ _ _ _ _ _ _ => rfl) fx_no) (fx_cnd (fun _ _ _ _ _ _ _ _ => rfl) fx_no)))) (fx_cnd (fx_cnd (fx_cnd (fun _ _ _ _ _ _ _ _ => rfl) fx_no) (fx_cnd (fun _ _ _ _ _ _ _ _ => rfl) fx_no)) (fx_cnd (fx_cnd (fun _ _ _ _ _ _ _ _ => rfl) fx_no) (fx_cnd (fx_cnd (fun _ _ _ _ _ _ _ _ => rfl) fx_no) (fx_cnd (fun _ _ _ _ _ _ _ _ => rfl) fx_no))))
theorem fk_31_0 (X : ez_X) (pc : Nat) : fx_ok X (ft_31_0 X pc) (ez_t31_0 pc) := by
  delta ft_31_0 ez_t31_0
  exact fx_cnd (fx_cnd (fx_cnd (fx_cnd (fun _ _ _ _ _ _ _ _ => rfl) fx_no) (fx_cnd (fun _ _ _ _ _ _ _ _ => rfl) fx_no)) (fx_cnd (fx_cnd (fun _ _ _ _ _ _ _ _ => rfl) fx_no) (fx_cnd (fun _ _ _ _ _ _ _ _ => rfl) fx_no))) (fx_cnd (fx_cnd (fx_cnd (fun _ _ _ _ _ _ _ _ => rfl) fx_no) (fx_cnd (fun _ _ _ _ _ _ _ _ => rfl) fx_no)) (fx_cnd (fx_cnd (fun _ _ _ _ _ _ _ _ => rfl) fx_no) (fx_cnd (fx_cnd (fun _ _ _ _ _ _ _ _ => rfl) fx_no) (fx_cnd (fun _ _ _ _ _ _ _ _ => rfl) fx_no))))
theorem fk_31_1 (X : ez_X) (pc : Nat) : fx_ok X (ft_31_1 X pc) (ez_t31_1 pc) := by
  delta ft_31_1 ez_t31_1
  exact fx_cnd (fx_cnd (fx_cnd (fx_cnd (fun _ _ _ _ _ _ _ _ => rfl) fx_no) (fx_cnd (fun _ _ _ _ _ _ _ _ => rfl) fx_no)) (fx_cnd (fx_cnd (fun _ _ _ _ _ _ _ _ => rfl) fx_no) (fx_cnd (fun _ _ _ _ _ _ _ _ => rfl) fx_no))) (fx_cnd (fx_cnd (fx_cnd (fun _ _ _ _ _ _ _ _ => rfl) fx_no) (fx_cnd (fun _ _ _ _ _ _ _ _ => rfl) fx_no)) (fx_cnd (fx_cnd (fun _ _ _ _ _ _ _ _ => rfl) fx_no) (fx_cnd (fx_cnd (fun _ _ _ _ _ _ _ _ => rfl) fx_no) (fx_cnd (fun _ _ _ _ _ _ _ _ => rfl) fx_no))))
theorem fk_31_2 (X : ez_X) (pc : Nat) : fx_ok X (ft_31_2 X pc) (ez_t31_2 pc) := by
  delta ft_31_2 ez_t31_2
  exact fx_cnd (fk_31_0 X pc) (fk_31_1 X pc)
theorem fk_31_3 (X : ez_X) (pc : Nat) : fx_ok X (ft_31_3 X pc) (ez_t31_3 pc) := by
  delta ft_31_3 ez_t31_3
  exact fx_cnd (fx_cnd (fx_cnd (fx_cnd (fun _ _ _ _ _ _ _ _ => rfl) fx_no) (fx_cnd (fun _ _ _ _ _ _ _ _ => rfl) fx_no)) (fx_cnd (fx_cnd (fun _ _ _ _ _ _ _ _ => rfl) fx_no) (fx_cnd (fun _ _ _ _ _ _ _ _ => rfl) fx_no))) (fx_cnd (fx_cnd (fx_cnd (fun _ _ _ _ _ _ _ _ => rfl) fx_no) (fx_cnd (fun _ _ _ _ _ _ _ _ => rfl) fx_no)) (fx_cnd (fx_cnd (fun _ _ _ _ _ _ _ _ => rfl) fx_no) (fx_cnd (fx_cnd (fun _ _ _ _ _ _ _ _ => rfl) fx_no) (fx_cnd (fun _ _ _ _ _ _ _ _ => rfl) fx_no))))
theorem fk_31_4 (X : ez_X) (pc : Nat) : fx_ok X (ft_31_4 X pc) (ez_t31_4 pc) := by
  delta ft_31_4 ez_t31_4
  exact fx_cnd (fx_cnd (fx_cnd (fx_cnd (fun _ _ _ _ _ _ _ _ => rfl) fx_no) (fx_cnd (fun _ _ _ _ _ _ _ _ => rfl) fx_no)) (fx_cnd (fx_cnd (fun _ _ _ _ _ _ _ _ => rfl) fx_no) (fx_cnd (fx_cnd (fun _ _ _ _ _ _ _ _ => rfl) fx_no) (fx_cnd (fun _ _ _ _ _ _ _ _ => rfl) fx_no)))) (fx_cnd (fx_cnd (fx_cnd (fun _ _ _ _ _ _ _ _ => rfl) fx_no) (fx_cnd (fun _ _ _ _ _ _ _ _ => rfl) fx_no)) (fx_cnd (fx_cnd (fun _ _ _ _ _ _ _ _ => rfl) fx_no) (fx_cnd (fx_cnd (fun _ _ _ _ _ _ _ _ => rfl) fx_no) (fx_cnd (fun _ _ _ _ _ _ _ _ => rfl) fx_no))))
theorem fk_31_5 (X : ez_X) (pc : Nat) : fx_ok X (ft_31_5 X pc) (ez_t31_5 pc) := by
  delta ft_31_5 ez_t31_5
  exact fx_cnd (fk_31_3 X pc) (fk_31_4 X pc)
theorem fk_31 (X : ez_X) (pc : Nat) : fx_ok X (ft_31 X pc) (ez_t31 pc) := by
  delta ft_31 ez_t31
  exact fx_cnd (fk_31_2 X pc) (fk_31_5 X pc)
theorem fk_32_0 (X : ez_X) (pc : Nat) : fx_ok X (ft_32_0 X pc) (ez_t32_0 pc) := by
  delta ft_32_0 ez_t32_0
  exact fx_cnd (fx_cnd (fx_cnd (fx_cnd (fun _ _ _ _ _ _ _ _ => rfl) fx_no) (fx_cnd (fun _ _ _ _ _ _ _ _ => rfl) fx_no)) (fx_cnd (fx_cnd (fun _ _ _ _ _ _ _ _ => rfl) fx_no) (fx_cnd (fx_cnd (fun _ _ _ _ _ _ _ _ => rfl) fx_no) (fx_cnd (fun _ _ _ _ _ _ _ _ => rfl) fx_no)))) (fx_cnd (fx_cnd (fx_cnd (fun _ _ _ _ _ _ _ _ => rfl) fx_no) (fx_cnd (fx_cnd (fun _ _ _ _ _ _ _ _ => rfl) fx_no) (fx_cnd (fun _ _ _ _ _ _ _ _ => rfl) fx_no))) (fx_cnd (fx_cnd (fun _ _ _ _ _ _ _ _ => rfl) fx_no) (fx_cnd (fx_cnd (fun _ _ _ _ _ _ _ _ => rfl) fx_no) (fx_cnd (fun _ _ _ _ _ _ _ _ => rfl) fx_no))))
theorem fk_32_1 (X : ez_X) (pc : Nat) : fx_ok X (ft_32_1 X pc) (ez_t32_1 pc) := by
  delta ft_32_1 ez_t32_1
  exact fx_cnd (fx_cnd (fx_cnd (fx_cnd (fun _ _ _ _ _ _ _ _ => rfl) fx_no) (fx_cnd (fun _ _ _ _ _ _ _ _ => rfl) fx_no)) (fx_cnd (fx_cnd (fun _ _ _ _ _ _ _ _ => rfl) fx_no) (fx_cnd (fx_cnd (fun _ _ _ _ _ _ _ _ => rfl) fx_no) (fx_cnd (fun _ _ _ _ _ _ _ _ => rfl) fx_no)))) (fx_cnd (fx_cnd (fx_cnd (fun _ _ _ _ _ _ _ _ => rfl) fx_no) (fx_cnd (fx_cnd (fun _ _ _ _ _ _ _ _ => rfl) fx_no) (fx_cnd (fun _ _ _ _ _ _ _ _ => rfl) fx_no))) (fx_cnd (fx_cnd (fun _ _ _ _ _ _ _ _ => rfl) fx_no) (fx_cnd (fx_cnd (fun _ _ _ _ _ _ _ _ => rfl) fx_no) (fx_cnd (fun _ _ _ _ _ _ _ _ => rfl) fx_no))))
theorem fk_32 (X : ez_X) (pc : Nat) : fx_ok X (ft_32 X pc) (ez_t32 pc) := by
  delta ft_32 ez_t32
  exact fx_cnd (fk_32_0 X pc) (fk_32_1 X pc)
theorem fk_33_0 (X : ez_X) (pc : Nat) : fx_ok X (ft_33_0 X pc) (ez_t33_0 pc) := by
  delta ft_33_0 ez_t33_0
  exact fx_cnd (fx_cnd (fx_cnd (fx_cnd (fun _ _ _ _ _ _ _ _ => rfl) fx_no) (fx_cnd (fx_cnd (fun _ _ _ _ _ _ _ _ => rfl) fx_no) (fx_cnd (fun _ _ _ _ _ _ _ _ => rfl) fx_no))) (fx_cnd (fx_cnd (fun _ _ _ _ _ _ _ _ => rfl) fx_no) (fx_cnd (fx_cnd (fun _ _ _ _ _ _ _ _ => rfl) fx_no) (fx_cnd (fun _ _ _ _ _ _ _ _ => rfl) fx_no)))) (fx_cnd (fx_cnd (fx_cnd (fun _ _ _ _ _ _ _ _ => rfl) fx_no) (fx_cnd (fx_cnd (fun _ _ _ _ _ _ _ _ => rfl) fx_no) (fx_cnd (fun _ _ _ _ _ _ _ _ => rfl) fx_no))) (fx_cnd (fx_cnd (fun _ _ _ _ _ _ _ _ => rfl) fx_no) (fx_cnd (fx_cnd (fun _ _ _ _ _ _ _ _ => rfl) fx_no) (fx_cnd (fun _ _ _ _ _ _ _ _ => rfl) fx_no))))
theorem fk_33_1 (X : ez_X) (pc : Nat) : fx_ok X (ft_33_1 X pc) (ez_t33_1 pc) := by
  delta ft_33_1 ez_t33_1
  exact fx_cnd (fx_cnd (fx_cnd (fun _ _ _ _ _ _ _ _ => rfl) fx_no) (fx_cnd (fx_cnd (fun _ _ _ _ _ _ _ _ => rfl) fx_no) (fx_cnd (fun _ _ _ _ _ _ _ _ => rfl) fx_no))) (fx_cnd (fx_cnd (fun _ _ _ _ _ _ _ _ => rfl) fx_no) (fx_cnd (fx_cnd (fun _ _ _ _ _ _ _ _ => rfl) fx_no) (fx_cnd (fun _ _ _ _ _ _ _ _ => rfl) fx_no)))
theorem fk_33_2 (X : ez_X) (pc : Nat) : fx_ok X (ft_33_2 X pc) (ez_t33_2 pc) := by
  delta ft_33_2 ez_t33_2
  exact fx_cnd (fx_cnd (fx_cnd (fun _ _ _ _ _ _ _ _ => rfl) fx_no) (fx_cnd (fx_cnd (fun _ _ _ _ _ _ _ _ => rfl) fx_no) (fx_cnd (fun _ _ _ _ _ _ _ _ => rfl) fx_no))) (fx_cnd (fx_cnd (fx_cnd (fun _ _ _ _ _ _ _ _ => rfl) fx_no) (fx_cnd (fun _ _ _ _ _ _ _ _ => rfl) fx_no)) (fx_cnd (fx_cnd (fun _ _ _ _ _ _ _ _ => rfl) fx_no) (fx_cnd (fun _ _ _ _ _ _ _ _ => rfl) fx_no)))
theorem fk_33_3 (X : ez_X) (pc : Nat) : fx_ok X (ft_33_3 X pc) (ez_t33_3 pc) := by
  delta ft_33_3 ez_t33_3
  exact fx_cnd (fk_33_1 X pc) (fk_33_2 X pc)
theorem fk_33 (X : ez_X) (pc : Nat) : fx_ok X (ft_33 X pc) (ez_t33 pc) := by
  delta ft_33 ez_t33
  exact fx_cnd (fk_33_0 X pc) (fk_33_3 X pc)
theorem fk_34_0 (X : ez_X) (pc : Nat) : fx_ok X (ft_34_0 X pc) (ez_t34_0 pc) := by
  delta ft_34_0 ez_t34_0
  exact fx_cnd (fx_cnd (fx_cnd (fx_cnd (fun _ _ _ _ _ _ _ _ => rfl) fx_no) (fx_cnd (fun _ _ _ _ _ _ _ _ => rfl) fx_no)) (fx_cnd (fx_cnd (fun _ _ _ _ _ _ _ _ => rfl) fx_no) (fx_cnd (fun _ _ _ _ _ _ _ _ => rfl) fx_no))) (fx_cnd (fx_cnd (fx_cnd (fun _ _ _ _ _ _ _ _ => rfl) fx_no) (fx_cnd (fun _ _ _ _ _ _ _ _ => rfl) fx_no)) (fx_cnd (fx_cnd (fun _ _ _ _ _ _ _ _ => rfl) fx_no) (fx_cnd (fx_cnd (fun _ _ _ _ _ _ _ _ => rfl) fx_no) (fx_cnd (fun _ _ _ _ _ _ _ _ => rfl) fx_no))))
theorem fk_34_1 (X : ez_X) (pc : Nat) : fx_ok X (ft_34_1 X pc) (ez_t34_1 pc) := by
  delta ft_34_1 ez_t34_1
  exact fx_cnd (fx_cnd (fx_cnd (fx_cnd (fun _ _ _ _ _ _ _ _ => rfl) fx_no) (fx_cnd (fun _ _ _ _ _ _ _ _ => rfl) fx_no)) (fx_cnd (fx_cnd (fun _ _ _ _ _ _ _ _ => rfl) fx_no) (fx_cnd (fx_cnd (fun _ _ _ _ _ _ _ _ => rfl) fx_no) (fx_cnd (fun _ _ _ _ _ _ _ _ => rfl) fx_no)))) (fx_cnd (fx_cnd (fx_cnd (fun _ _ _ _ _ _ _ _ => rfl) fx_no) (fx_cnd (fun _ _ _ _ _ _ _ _ => rfl) fx_no)) (fx_cnd (fx_cnd (fun _ _ _ _ _ _ _ _ => rfl) fx_no) (fx_cnd (fx_cnd (fun _ _ _ _ _ _ _ _ => rfl) fx_no) (fx_cnd (fun _ _ _ _ _ _ _ _ => rfl) fx_no))))
theorem fk_34 (X : ez_X) (pc : Nat) : fx_ok X (ft_34 X pc) (ez_t34 pc) := by
  delta ft_34 ez_t34
  exact fx_cnd (fk_34_0 X pc) (fk_34_1 X pc)
theorem fk_35_0 (X : ez_X) (pc : Nat) : fx_ok X (ft_35_0 X pc) (ez_t35_0 pc) := by
  delta ft_35_0 ez_t35_0
  exact fx_cnd (fx_cnd (fx_cnd (fx_cnd (fun _ _ _ _ _ _ _ _ => rfl) fx_no) (fx_cnd (fun _ _ _ _ _ _ _ _ => rfl) fx_no)) (fx_cnd (fx_cnd (fun _ _ _ _ _ _ _ _ => rfl) fx_no) (fx_cnd (fun _ _ _ _ _ _ _ _ => rfl) fx_no))) (fx_cnd (fx_cnd (fx_cnd (fun _ _ _ _ _ _ _ _ => rfl) fx_no) (fx_cnd (fun _ _ _ _ _ _ _ _ => rfl) fx_no)) (fx_cnd (fx_cnd (fun _ _ _ _ _ _ _ _ => rfl) fx_no) (fx_cnd (fun _ _ _ _ _ _ _ _ => rfl) fx_no)))
theorem fk_35_1 (X : ez_X) (pc : Nat) : fx_ok X (ft_35_1 X pc) (ez_t35_1 pc) := by
  delta ft_35_1 ez_t35_1
  exact fx_cnd (fx_cnd (fx_cnd (fx_cnd (fun _ _ _ _ _ _ _ _ => rfl) fx_no) (fx_cnd (fun _ _ _ _ _ _ _ _ => rfl) fx_no)) (fx_cnd (fx_cnd (fun _ _ _ _ _ _ _ _ => rfl) fx_no) (fx_cnd (fun _ _ _ _ _ _ _ _ => rfl) fx_no))) (fx_cnd (fx_cnd (fx_cnd (fun _ _ _ _ _ _ _ _ => rfl) fx_no) (fx_cnd (fun _ _ _ _ _ _ _ _ => rfl) fx_no)) (fx_cnd (fx_cnd (fun _ _ _ _ _ _ _ _ => rfl) fx_no) (fx_cnd (fun _ _ _ _ _ _ _ _ => rfl) fx_no)))
theorem fk_35 (X : ez_X) (pc : Nat) : fx_ok X (ft_35 X pc) (ez_t35 pc) := by
  delta ft_35 ez_t35
  exact fx_cnd (fk_35_0 X pc) (fk_35_1 X pc)
theorem fk_36 (X : ez_X) (pc : Nat) : fx_ok X (ft_36 X pc) (ez_t36 pc) := by
  delta ft_36 ez_t36
  exact fx_cnd (fx_cnd (fx_cnd (fx_cnd (fun _ _ _ _ _ _ _ _ => rfl) fx_no) (fx_cnd (fun _ _ _ _ _ _ _ _ => rfl) fx_no)) (fx_cnd (fx_cnd (fun _ _ _ _ _ _ _ _ => rfl) fx_no) (fx_cnd (fun _ _ _ _ _ _ _ _ => rfl) fx_no))) (fx_cnd (fx_cnd (fx_cnd (fun _ _ _ _ _ _ _ _ => rfl) fx_no) (fx_cnd (fun _ _ _ _ _ _ _ _ => rfl) fx_no)) (fx_cnd (fx_cnd (fun _ _ _ _ _ _ _ _ => rfl) fx_no) (fx_cnd (fun _ _ _ _ _ _ _ _ => rfl) fx_no)))
theorem fk_37_0 (X : ez_X) (pc : Nat) : fx_ok X (ft_37_0 X pc) (ez_t37_0 pc) := by
  delta ft_37_0 ez_t37_0
  exact fx_cnd (fx_cnd (fx_cnd (fx_cnd (fun _ _ _ _ _ _ _ _ => rfl) fx_no) (fx_cnd (fx_cnd (fun _ _ _ _ _ _ _ _ => rfl) fx_no) (fx_cnd (fun _ _ _ _ _ _ _ _ => rfl) fx_no))) (fx_cnd (fx_cnd (fun _ _ _ _ _ _ _ _ => rfl) fx_no) (fx_cnd (fx_cnd (fun _ _ _ _ _ _ _ _ => rfl) fx_no) (fx_cnd (fun _ _ _ _ _ _ _ _ => rfl) fx_no)))) (fx_cnd (fx_cnd (fx_cnd (fun _ _ _ _ _ _ _ _ => rfl) fx_no) (fx_cnd (fx_cnd (fun _ _ _ _ _ _ _ _ => rfl) fx_no) (fx_cnd (fun _ _ _ _ _ _ _ _ => rfl) fx_no))) (fx_cnd (fx_cnd (fun _ _ _ _ _ _ _ _ => rfl) fx_no) (fx_cnd (fx_cnd (fun _ _ _ _ _ _ _ _ => rfl) fx_no) (fx_cnd (fun _ _ _ _ _ _ _ _ => rfl) fx_no))))
theorem fk_37_1 (X : ez_X) (pc : Nat) : fx_ok X (ft_37_1 X pc) (ez_t37_1 pc) := by
  delta ft_37_1 ez_t37_1
  exact fx_cnd (fx_cnd (fx_cnd (fx_cnd (fun _ _ _ _ _ _ _ _ => rfl) fx_no) (fx_cnd (fx_cnd (fun _ _ _ _ _ _ _ _ => rfl) fx_no) (fx_cnd (fun _ _ _ _ _ _ _ _ => rfl) fx_no))) (fx_cnd (fx_cnd (fun _ _ _ _ _ _ _ _ => rfl) fx_no) (fx_cnd (fx_cnd (fun _ _ _ _ _ _ _ _ => rfl) fx_no) (fx_cnd (fun _ _ _ _ _ _ _ _ => rfl) fx_no)))) (fx_cnd (fx_cnd (fx_cnd (fun _ _ _ _ _ _ _ _ => rfl) fx_no) (fx_cnd (fx_cnd (fun _ _ _ _ _ _ _ _ => rfl) fx_no) (fx_cnd (fun _ _ _ _ _ _ _ _ => rfl) fx_no))) (fx_cnd (fx_cnd (fun _ _ _ _ _ _ _ _ => rfl) fx_no) (fx_cnd (fx_cnd (fun _ _ _ _ _ _ _ _ => rfl) fx_no) (fx_cnd (fun _ _ _ _ _ _ _ _ => rfl) fx_no))))
theorem fk_37 (X : ez_X) (pc : Nat) : fx_ok X (ft_37 X pc) (ez_t37 pc) := by
  delta ft_37 ez_t37
  exact fx_cnd (fk_37_0 X pc) (fk_37_1 X pc)
theorem fk_38 (X : ez_X) (pc : Nat) : fx_ok X (ft_38 X pc) (ez_t38 pc) := by
  delta ft_38 ez_t38
  exact fx_cnd (fx_cnd (fx_cnd (fx_cnd (fun _ _ _ _ _ _ _ _ => rfl) fx_no) (fx_cnd (fun _ _ _ _ _ _ _ _ => rfl) fx_no)) (fx_cnd (fx_cnd (fun _ _ _ _ _ _ _ _ => rfl) fx_no) (fx_cnd (fx_cnd (fun _ _ _ _ _ _ _ _ => rfl) fx_no) (fx_cnd (fun _ _ _ _ _ _ _ _ => rfl) fx_no)))) (fx_cnd (fx_cnd (fx_cnd (fun _ _ _ _ _ _ _ _ => rfl) fx_no) (fx_cnd (fx_cnd (fun _ _ _ _ _ _ _ _ => rfl) fx_no) (fx_cnd (fun _ _ _ _ _ _ _ _ => rfl) fx_no))) (fx_cnd (fx_cnd (fun _ _ _ _ _ _ _ _ => rfl) fx_no) (fx_cnd (fx_cnd (fun _ _ _ _ _ _ _ _ => rfl) fx_no) (fx_cnd (fun _ _ _ _ _ _ _ _ => rfl) fx_no))))
theorem fk_39 (X : ez_X) (pc : Nat) : fx_ok X (ft_39 X pc) (ez_t39 pc) := by
  delta ft_39 ez_t39
  exact fx_cnd (fx_cnd (fx_cnd (fx_cnd (fun _ _ _ _ _ _ _ _ => rfl) fx_no) (fx_cnd (fun _ _ _ _ _ _ _ _ => rfl) fx_no)) (fx_cnd (fx_cnd (fun _ _ _ _ _ _ _ _ => rfl) fx_no) (fx_cnd (fx_cnd (fun _ _ _ _ _ _ _ _ => rfl) fx_no) (fx_cnd (fun _ _ _ _ _ _ _ _ => rfl) fx_no)))) (fx_cnd (fx_cnd (fx_cnd (fun _ _ _ _ _ _ _ _ => rfl) fx_no) (fx_cnd (fx_cnd (fun _ _ _ _ _ _ _ _ => rfl) fx_no) (fx_cnd (fun _ _ _ _ _ _ _ _ => rfl) fx_no))) (fx_cnd (fx_cnd (fun _ _ _ _ _ _ _ _ => rfl) fx_no) (fx_cnd (fx_cnd (fun _ _ _ _ _ _ _ _ => rfl) fx_no) (fx_cnd (fun _ _ _ _ _ _ _ _ => rfl) fx_no))))
theorem fk_40_0 (X : ez_X) (pc : Nat) : fx_ok X (ft_40_0 X pc) (ez_t40_0 pc) := by
  delta ft_40_0 ez_t40_0
  exact fx_cnd (fx_cnd (fx_cnd (fun _ _ _ _ _ _ _ _ => rfl) fx_no) (fx_cnd (fx_cnd (fun _ _ _ _ _ _ _ _ => rfl) fx_no) (fx_cnd (fun _ _ _ _ _ _ _ _ => rfl) fx_no))) (fx_cnd (fx_cnd (fun _ _ _ _ _ _ _ _ => rfl) fx_no) (fx_cnd (fx_cnd (fun _ _ _ _ _ _ _ _ => rfl) fx_no) (fx_cnd (fun _ _ _ _ _ _ _ _ => rfl) fx_no)))
theorem fk_40_1 (X : ez_X) (pc : Nat) : fx_ok X (ft_40_1 X pc) (ez_t40_1 pc) := by
  delta ft_40_1 ez_t40_1
  exact fx_cnd (fx_cnd (fx_cnd (fun _ _ _ _ _ _ _ _ => rfl) fx_no) (fx_cnd (fx_cnd (fun _ _ _ _ _ _ _ _ => rfl) fx_no) (fx_cnd (fun _ _ _ _ _ _ _ _ => rfl) fx_no))) (fx_cnd (fx_cnd (fx_cnd (fun _ _ _ _ _ _ _ _ => rfl) fx_no) (fx_cnd (fun _ _ _ _ _ _ _ _ => rfl) fx_no)) (fx_cnd (fx_cnd (fun _ _ _ _ _ _ _ _ => rfl) fx_no) (fx_cnd (fun _ _ _ _ _ _ _ _ => rfl) fx_no)))
theorem fk_40_2 (X : ez_X) (pc : Nat) : fx_ok X (ft_40_2 X pc) (ez_t40_2 pc) := by
  delta ft_40_2 ez_t40_2
  exact fx_cnd (fk_40_0 X pc) (fk_40_1 X pc)
theorem fk_40_3 (X : ez_X) (pc : Nat) : fx_ok X (ft_40_3 X pc) (ez_t40_3 pc) := by
  delta ft_40_3 ez_t40_3
  exact fx_cnd (fx_cnd (fx_cnd (fun _ _ _ _ _ _ _ _ => rfl) fx_no) (fx_cnd (fx_cnd (fun _ _ _ _ _ _ _ _ => rfl) fx_no) (fx_cnd (fun _ _ _ _ _ _ _ _ => rfl) fx_no))) (fx_cnd (fx_cnd (fun _ _ _ _ _ _ _ _ => rfl) fx_no) (fx_cnd (fx_cnd (fun _ _ _ _ _ _ _ _ => rfl) fx_no) (fx_cnd (fun _ _ _ _ _ _ _ _ => rfl) fx_no)))
theorem fk_40_4 (X : ez_X) (pc : Nat) : fx_ok X (ft_40_4 X pc) (ez_t40_4 pc) := by
  delta ft_40_4 ez_t40_4
  exact fx_cnd (fx_cnd (fx_cnd (fun _ _ _ _ _ _ _ _ => rfl) fx_no) (fx_cnd (fx_cnd (fun _ _ _ _ _ _ _ _ => rfl) fx_no) (fx_cnd (fun _ _ _ _ _ _ _ _ => rfl) fx_no))) (fx_cnd (fx_cnd (fx_cnd (fun _ _ _ _ _ _ _ _ => rfl) fx_no) (fx_cnd (fun _ _ _ _ _ _ _ _ => rfl) fx_no)) (fx_cnd (fx_cnd (fun _ _ _ _ _ _ _ _ => rfl) fx_no) (fx_cnd (fun _ _ _ _ _ _ _ _ => rfl) fx_no)))
theorem fk_40_5 (X : ez_X) (pc : Nat) : fx_ok X (ft_40_5 X pc) (ez_t40_5 pc) := by
  delta ft_40_5 ez_t40_5
  exact fx_cnd (fk_40_3 X pc) (fk_40_4 X pc)
theorem fk_40 (X : ez_X) (pc : Nat) : fx_ok X (ft_40 X pc) (ez_t40 pc) := by
  delta ft_40 ez_t40
  exact fx_cnd (fk_40_2 X pc) (fk_40_5 X pc)
theorem fk_41_0 (X : ez_X) (pc : Nat) : fx_ok X (ft_41_0 X pc) (ez_t41_0 pc) := by
  delta ft_41_0 ez_t41_0
  exact fx_cnd (fx_cnd (fx_cnd (fx_cnd (fun _ _ _ _ _ _ _ _ => rfl) fx_no) (fx_cnd (fx_cnd (fun _ _ _ _ _ _ _ _ => rfl) fx_no) (fx_cnd (fun _ _ _ _ _ _ _ _ => rfl) fx_no))) (fx_cnd (fx_cnd (fun _ _ _ _ _ _ _ _ => rfl) fx_no) (fx_cnd (fx_cnd (fun _ _ _ _ _ _ _ _ => rfl) fx_no) (fx_cnd (fun _ _ _ _ _ _ _ _ => rfl) fx_no)))) (fx_cnd (fx_cnd (fx_cnd (fun _ _ _ _ _ _ _ _ => rfl) fx_no) (fx_cnd (fx_cnd (fun _ _ _ _ _ _ _ _ => rfl) fx_no) (fx_cnd (fun _ _ _ _ _ _ _ _ => rfl) fx_no))) (fx_cnd (fx_cnd (fun _ _ _ _ _ _ _ _ => rfl) fx_no) (fx_cnd (fx_cnd (fun _ _ _ _ _ _ _ _ => rfl) fx_no) (fx_cnd (fun _ _ _ _ _ _ _ _ => rfl) fx_no))))
theorem fk_41_1 (X : ez_X) (pc : Nat) : fx_ok X (ft_41_1 X pc) (ez_t41_1 pc) := by
  delta ft_41_1 ez_t41_1
  exact fx_cnd (fx_cnd (fx_cnd (fun _ _ _ _ _ _ _ _ => rfl) fx_no) (fx_cnd (fx_cnd (fun _ _ _ _ _ _ _ _ => rfl) fx_no) (fx_cnd (fun _ _ _ _ _ _ _ _ => rfl) fx_no))) (fx_cnd (fx_cnd (fun _ _ _ _ _ _ _ _ => rfl) fx_no) (fx_cnd (fx_cnd (fun _ _ _ _ _ _ _ _ => rfl) fx_no) (fx_cnd (fun _ _ _ _ _ _ _ _ => rfl) fx_no)))
theorem fk_41_2 (X : ez_X) (pc : Nat) : fx_ok X (ft_41_2 X pc) (ez_t41_2 pc) := by
  delta ft_41_2 ez_t41_2
  exact fx_cnd (fx_cnd (fx_cnd (fun _ _ _ _ _ _ _ _ => rfl) fx_no) (fx_cnd (fx_cnd (fun _ _ _ _ _ _ _ _ => rfl) fx_no) (fx_cnd (fun _ _ _ _ _ _ _ _ => rfl) fx_no))) (fx_cnd (fx_cnd (fx_cnd (fun _ _ _ _ _ _ _ _ => rfl) fx_no) (fx_cnd (fun _ _ _ _ _ _ _ _ => rfl) fx_no)) (fx_cnd (fx_cnd (fun _ _ _ _ _ _ _ _ => rfl) fx_no) (fx_cnd (fun _ _ _ _ _ _ _ _ => rfl) fx_no)))
theorem fk_41_3 (X : ez_X) (pc : Nat) : fx_ok X (ft_41_3 X pc) (ez_t41_3 pc) := by
  delta ft_41_3 ez_t41_3
  exact fx_cnd (fk_41_1 X pc) (fk_41_2 X pc)
theorem fk_41 (X : ez_X) (pc : Nat) : fx_ok X (ft_41 X pc) (ez_t41 pc) := by
  delta ft_41 ez_t41
  exact fx_cnd (fk_41_0 X pc) (fk_41_3 X pc)
theorem fk_42_0 (X : ez_X) (pc : Nat) : fx_ok X (ft_42_0 X pc) (ez_t42_0 pc) := by
  delta ft_42_0 ez_t42_0
  exact fx_cnd (fx_cnd (fx_cnd (fx_cnd (fun _ _ _ _ _ _ _ _ => rfl) fx_no) (fx_cnd (fun _ _ _ _ _ _ _ _ => rfl) fx_no)) (fx_cnd (fx_cnd (fun _ _ _ _ _ _ _ _ => rfl) fx_no) (fx_cnd (fx_cnd (fun _ _ _ _ _ _ _ _ => rfl) fx_no) (fx_cnd (fun _ _ _ _ _ _ _ _ => rfl) fx_no)))) (fx_cnd (fx_cnd (fx_cnd (fun _ _ _ _ _ _ _ _ => rfl) fx_no) (fx_cnd (fun _ _ _ _ _ _ _ _ => rfl) fx_no)) (fx_cnd (fx_cnd (fun _ _ _ _ _ _ _ _ => rfl) fx_no) (fx_cnd (fx_cnd (fun _ _ _ _ _ _ _ _ => rfl) fx_no) (fx_cnd (fun _ _ _ _ _ _ _ _ => rfl) fx_no))))
theorem fk_42_1 (X : ez_X) (pc : Nat) : fx_ok X (ft_42_1 X pc) (ez_t42_1 pc) := by
  delta ft_42_1 ez_t42_1
  exact fx_cnd (fx_cnd (fx_cnd (fx_cnd (fun _ _ _ _ _ _ _ _ => rfl) fx_no) (fx_cnd (fun _ _ _ _ _ _ _ _ => rfl) fx_no)) (fx_cnd (fx_cnd (fun _ _ _ _ _ _ _ _ => rfl) fx_no) (fx_cnd (fx_cnd (fun _ _ _ _ _ _ _ _ => rfl) fx_no) (fx_cnd (fun _ _ _ _ _ _ _ _ => rfl) fx_no)))) (fx_cnd (fx_cnd (fx_cnd (fun _ _ _ _ _ _ _ _ => rfl) fx_no) (fx_cnd (fun _ _ _ _ _ _ _ _ => rfl) fx_no)) (fx_cnd (fx_cnd (fun _ _ _ _ _ _ _ _ => rfl) fx_no) (fx_cnd (fx_cnd (fun _ _ _ _ _ _ _ _ => rfl) fx_no) (fx_cnd (fun _ _ _ _ _ _ _ _ => rfl) fx_no))))
theorem fk_42_2 (X : ez_X) (pc : Nat) : fx_ok X (ft_42_2 X pc) (ez_t42_2 pc) := by
  delta ft_42_2 ez_t42_2
  exact fx_cnd (fk_42_0 X pc) (fk_42_1 X pc)
theorem fk_42_3 (X : ez_X) (pc : Nat) : fx_ok X (ft_42_3 X pc) (ez_t42_3 pc) := by
  delta ft_42_3 ez_t42_3
  exact fx_cnd (fx_cnd (fx_cnd (fx_cnd (fun _ _ _ _ _ _ _ _ => rfl) fx_no) (fx_cnd (fun _ _ _ _ _ _ _ _ => rfl) fx_no)) (fx_cnd (fx_cnd (fun _ _ _ _ _ _ _ _ => rfl) fx_no) (fx_cnd (fx_cnd (fun _ _ _ _ _ _ _ _ => rfl) fx_no) (fx_cnd (fun _ _ _ _ _ _ _ _ => rfl) fx_no)))) (fx_cnd (fx_cnd (fx_cnd (fun _ _ _ _ _ _ _ _ => rfl) fx_no) (fx_cnd (fun _ _ _ _ _ _ _ _ => rfl) fx_no)) (fx_cnd (fx_cnd (fun _ _ _ _ _ _ _ _ => rfl) fx_no) (fx_cnd (fx_cnd (fun _ _ _ _ _ _ _ _ => rfl) fx_no) (fx_cnd (fun _ _ _ _ _ _ _ _ => rfl) fx_no))))
theorem fk_42_4 (X : ez_X) (pc : Nat) : fx_ok X (ft_42_4 X pc) (ez_t42_4 pc) := by
  delta ft_42_4 ez_t42_4
  exact fx_cnd (fx_cnd (fx_cnd (fx_cnd (fun _ _ _ _ _ _ _ _ => rfl) fx_no) (fx_cnd (fun _ _ _ _ _ _ _ _ => rfl) fx_no)) (fx_cnd (fx_cnd (fun _ _ _ _ _ _ _ _ => rfl) fx_no) (fx_cnd (fx_cnd (fun _ _ _ _ _ _ _ _ => rfl) fx_no) (fx_cnd (fun _ _ _ _ _ _ _ _ => rfl) fx_no)))) (fx_cnd (fx_cnd (fx_cnd (fun _ _ _ _ _ _ _ _ => rfl) fx_no) (fx_cnd (fx_cnd (fun _ _ _ _ _ _ _ _ => rfl) fx_no) (fx_cnd (fun _ _ _ _ _ _ _ _ => rfl) fx_no))) (fx_cnd (fx_cnd (fun _ _ _ _ _ _ _ _ => rfl) fx_no) (fx_cnd (fx_cnd (fun _ _ _ _ _ _ _ _ => rfl) fx_no) (fx_cnd (fun _ _ _ _ _ _ _ _ => rfl) fx_no))))
theorem fk_42_5 (X : ez_X) (pc : Nat) : fx_ok X (ft_42_5 X pc) (ez_t42_5 pc) := by
  delta ft_42_5 ez_t42_5
  exact fx_cnd (fk_42_3 X pc) (fk_42_4 X pc)
theorem fk_42 (X : ez_X) (pc : Nat) : fx_ok X (ft_42 X pc) (ez_t42 pc) := by
  delta ft_42 ez_t42
  exact fx_cnd (fk_42_2 X pc) (fk_42_5 X pc)
theorem fk_43_0 (X : ez_X) (pc : Nat) : fx_ok X (ft_43_0 X pc) (ez_t43_0 pc) := by
  delta ft_43_0 ez_t43_0
  exact fx_cnd (fx_cnd (fx_cnd (fx_cnd (fun _ _ _ _ _ _ _ _ => rfl) fx_no) (fx_cnd (fun _ _ _ _ _ _ _ _ => rfl) fx_no)) (fx_cnd (fx_cnd (fun _ _ _ _ _ _ _ _ => rfl) fx_no) (fx_cnd (fun _ _ _ _ _ _ _ _ => rfl) fx_no))) (fx_cnd (fx_cnd (fx_cnd (fun _ _ _ _ _ _ _ _ => rfl) fx_no) (fx_cnd (fun _ _ _ _ _ _ _ _ => rfl) fx_no)) (fx_cnd (fx_cnd (fun _ _ _ _ _ _ _ _ => rfl) fx_no) (fx_cnd (fx_cnd (fun _ _ _ _ _ _ _ _ => rfl) fx_no) (fx_cnd (fun _ _ _ _ _ _ _ _ => rfl) fx_no))))
theorem fk_43_1 (X : ez_X) (pc : Nat) : fx_ok X (ft_43_1 X pc) (ez_t43_1 pc) := by
  delta ft_43_1 ez_t43_1
  exact fx_cnd (fx_cnd (fx_cnd (fx_cnd (fun _ _ _ _ _ _ _ _ => rfl) fx_no) (fx_cnd (fun _ _ _ _ _ _ _ _ => rfl) fx_no)) (fx_cnd (fx_cnd (fun _ _ _ _ _ _ _ _ => rfl) fx_no) (fx_cnd (fx_cnd (fun _ _ _ _ _ _ _ _ => rfl) fx_no) (fx_cnd (fun _ _ _ _ _ _ _ _ => rfl) fx_no)))) (fx_cnd (fx_cnd (fx_cnd (fun _ _ _ _ _ _ _ _ => rfl) fx_no) (fx_cnd (fun _ _ _ _ _ _ _ _ => rfl) fx_no)) (fx_cnd (fx_cnd (fun _ _ _ _ _ _ _ _ => rfl) fx_no) (fx_cnd (fx_cnd (fun _ _ _ _ _ _ _ _ => rfl) fx_no) (fx_cnd (fun _ _ _ _ _ _ _ _ => rfl) fx_no))))
theorem fk_43_2 (X : ez_X) (pc : Nat) : fx_ok X (ft_43_2 X pc) (ez_t43_2 pc) := by
  delta ft_43_2 ez_t43_2
  exact fx_cnd (fk_43_0 X pc) (fk_43_1 X pc)
theorem fk_43_3 (X : ez_X) (pc : Nat) : fx_ok X (ft_43_3 X pc) (ez_t43_3 pc) := by
  delta ft_43_3 ez_t43_3
  exact fx_cnd (fx_cnd (fx_cnd (fx_cnd (fun _ _ _ _ _ _ _ _ => rfl) fx_no) (fx_cnd (fun _ _ _ _ _ _ _ _ => rfl) fx_no)) (fx_cnd (fx_cnd (fun _ _ _ _ _ _ _ _ => rfl) fx_no) (fx_cnd (fx_cnd (fun _ _ _ _ _ _ _ _ => rfl) fx_no) (fx_cnd (fun _ _ _ _ _ _ _ _ => rfl) fx_no)))) (fx_cnd (fx_cnd (fx_cnd (fun _ _ _ _ _ _ _ _ => rfl) fx_no) (fx_cnd (fun _ _ _ _ _ _ _ _ => rfl) fx_no)) (fx_cnd (fx_cnd (fun _ _ _ _ _ _ _ _ => rfl) fx_no) (fx_cnd (fx_cnd (fun _ _ _ _ _ _ _ _ => rfl) fx_no) (fx_cnd (fun _ _ _ _ _ _ _ _ => rfl) fx_no))))
theorem fk_43_4 (X : ez_X) (pc : Nat) : fx_ok X (ft_43_4 X pc) (ez_t43_4 pc) := by
  delta ft_43_4 ez_t43_4
  exact fx_cnd (fx_cnd (fx_cnd (fx_cnd (fun _ _ _ _ _ _ _ _ => rfl) fx_no) (fx_cnd (fun _ _ _ _ _ _ _ _ => rfl) fx_no)) (fx_cnd (fx_cnd (fun _ _ _ _ _ _ _ _ => rfl) fx_no) (fx_cnd (fx_cnd (fun _ _ _ _ _ _ _ _ => rfl) fx_no) (fx_cnd (fun _ _ _ _ _ _ _ _ => rfl) fx_no)))) (fx_cnd (fx_cnd (fx_cnd (fun _ _ _ _ _ _ _ _ => rfl) fx_no) (fx_cnd (fun _ _ _ _ _ _ _ _ => rfl) fx_no)) (fx_cnd (fx_cnd (fun _ _ _ _ _ _ _ _ => rfl) fx_no) (fx_cnd (fx_cnd (fun _ _ _ _ _ _ _ _ => rfl) fx_no) (fx_cnd (fun _ _ _ _ _ _ _ _ => rfl) fx_no))))
theorem fk_43_5 (X : ez_X) (pc : Nat) : fx_ok X (ft_43_5 X pc) (ez_t43_5 pc) := by
  delta ft_43_5 ez_t43_5
  exact fx_cnd (fk_43_3 X pc) (fk_43_4 X pc)
theorem fk_43 (X : ez_X) (pc : Nat) : fx_ok X (ft_43 X pc) (ez_t43 pc) := by
  delta ft_43 ez_t43
  exact fx_cnd (fk_43_2 X pc) (fk_43_5 X pc)
theorem fk_44_0 (X : ez_X) (pc : Nat) : fx_ok X (ft_44_0 X pc) (ez_t44_0 pc) := by
  delta ft_44_0 ez_t44_0
  exact fx_cnd (fx_cnd (fx_cnd (fx_cnd (fun _ _ _ _ _ _ _ _ => rfl) fx_no) (fx_cnd (fx_cnd (fun _ _ _ _ _ _ _ _ => rfl) fx_no) (fx_cnd (fun _ _ _ _ _ _ _ _ => rfl) fx_no))) (fx_cnd (fx_cnd (fun _ _ _ _ _ _ _ _ => rfl) fx_no) (fx_cnd (fx_cnd (fun _ _ _ _ _ _ _ _ => rfl) fx_no) (fx_cnd (fun _ _ _ _ _ _ _ _ => rfl) fx_no)))) (fx_cnd (fx_cnd (fx_cnd (fun _ _ _ _ _ _ _ _ => rfl) fx_no) (fx_cnd (fx_cnd (fun _ _ _ _ _ _ _ _ => rfl) fx_no) (fx_cnd (fun _ _ _ _ _ _ _ _ => rfl) fx_no))) (fx_cnd (fx_cnd (fun _ _ _ _ _ _ _ _ => rfl) fx_no) (fx_cnd (fx_cnd (fun _ _ _ _ _ _ _ _ => rfl) fx_no) (fx_cnd (fun _ _ _ _ _ _ _ _ => rfl) fx_no))))
theorem fk_44_1 (X : ez_X) (pc : Nat) : fx_ok X (ft_44_1 X pc) (ez_t44_1 pc) := by
  delta ft_44_1 ez_t44_1
  exact fx_cnd (fx_cnd (fx_cnd (fx_cnd (fun _ _ _ _ _ _ _ _ => rfl) fx_no) (fx_cnd (fx_cnd (fun _ _ _ _ _ _ _ _ => rfl) fx_no) (fx_cnd (fun _ _ _ _ _ _ _ _ => rfl) fx_no))) (fx_cnd (fx_cnd (fun _ _ _ _ _ _ _ _ => rfl) fx_no) (fx_cnd (fx_cnd (fun _ _ _ _ _ _ _ _ => rfl) fx_no) (fx_cnd (fun _ _ _ _ _ _ _ _ => rfl) fx_no)))) (fx_cnd (fx_cnd (fx_cnd (fun _ _ _ _ _ _ _ _ => rfl) fx_no) (fx_cnd (fx_cnd (fun _ _ _ _ _ _ _ _ => rfl) fx_no) (fx_cnd (fun _ _ _ _ _ _ _ _ => rfl) fx_no))) (fx_cnd (fx_cnd (fun _ _ _ _ _ _ _ _ => rfl) fx_no) (fx_cnd (fx_cnd (fun _ _ _ _ _ _ _ _ => rfl) fx_no) (fx_cnd (fun _ _ _ _ _ _ _ _ => rfl) fx_no))))
theorem fk_44 (X : ez_X) (pc : Nat) : fx_ok X (ft_44 X pc) (ez_t44 pc) := by
  delta ft_44 ez_t44
  exact fx_cnd (fk_44_0 X pc) (fk_44_1 X pc)
theorem fk_45 (X : ez_X) (pc : Nat) : fx_ok X (ft_45 X pc) (ez_t45 pc) := by
  delta ft_45 ez_t45
  exact fx_cnd (fx_cnd (fx_cnd (fx_cnd (fun _ _ _ _ _ _ _ _ => rfl) fx_no) (fx_cnd (fun _ _ _ _ _ _ _ _ => rfl) fx_no)) (fx_cnd (fx_cnd (fun _ _ _ _ _ _ _ _ => rfl) fx_no) (fx_cnd (fx_cnd (fun _ _ _ _ _ _ _ _ => rfl) fx_no) (fx_cnd (fun _ _ _ _ _ _ _ _ => rfl) fx_no)))) (fx_cnd (fx_cnd (fx_cnd (fun _ _ _ _ _ _ _ _ => rfl) fx_no) (fx_cnd (fun _ _ _ _ _ _ _ _ => rfl) fx_no)) (fx_cnd (fx_cnd (fun _ _ _ _ _ _ _ _ => rfl) fx_no) (fx_cnd (fx_cnd (fun _ _ _ _ _ _ _ _ => rfl) fx_no) (fx_cnd (fun _ _ _ _ _ _ _ _ => rfl) fx_no))))
theorem fk_46 (X : ez_X) (pc : Nat) : fx_ok X (ft_46 X pc) (ez_t46 pc) := by
  delta ft_46 ez_t46
  exact fx_cnd (fx_cnd (fx_cnd (fx_cnd (fun _ _ _ _ _ _ _ _ => rfl) fx_no) (fx_cnd (fun _ _ _ _ _ _ _ _ => rfl) fx_no)) (fx_cnd (fx_cnd (fun _ _ _ _ _ _ _ _ => rfl) fx_no) (fx_cnd (fx_cnd (fun _ _ _ _ _ _ _ _ => rfl) fx_no) (fx_cnd (fun _ _ _ _ _ _ _ _ => rfl) fx_no)))) (fx_cnd (fx_cnd (fx_cnd (fun _ _ _ _ _ _ _ _ => rfl) fx_no) (fx_cnd (fx_cnd (fun _ _ _ _ _ _ _ _ => rfl) fx_no) (fx_cnd (fun _ _ _ _ _ _ _ _ => rfl) fx_no))) (fx_cnd (fx_cnd (fun _ _ _ _ _ _ _ _ => rfl) fx_no) (fx_cnd (fx_cnd (fun _ _ _ _ _ _ _ _ => rfl) fx_no) (fx_cnd (fun _ _ _ _ _ _ _ _ => rfl) fx_no))))
theorem fk_47 (X : ez_X) (pc : Nat) : fx_ok X (ft_47 X pc) (ez_t47 pc) := by
  delta ft_47 ez_t47
  exact fx_cnd (fx_cnd (fx_cnd (fx_cnd (fun _ _ _ _ _ _ _ _ => rfl) fx_no) (fx_cnd (fx_cnd (fun _ _ _ _ _ _ _ _ => rfl) fx_no) (fx_cnd (fun _ _ _ _ _ _ _ _ => rfl) fx_no))) (fx_cnd (fx_cnd (fun _ _ _ _ _ _ _ _ => rfl) fx_no) (fx_cnd (fx_cnd (fun _ _ _ _ _ _ _ _ => rfl) fx_no) (fx_cnd (fun _ _ _ _ _ _ _ _ => rfl) fx_no)))) (fx_cnd (fx_cnd (fx_cnd (fun _ _ _ _ _ _ _ _ => rfl) fx_no) (fx_cnd (fx_cnd (fun _ _ _ _ _ _ _ _ => rfl) fx_no) (fx_cnd (fun _ _ _ _ _ _ _ _ => rfl) fx_no))) (fx_cnd (fx_cnd (fun _ _ _ _ _ _ _ _ => rfl) fx_no) (fx_cnd (fx_cnd (fun _ _ _ _ _ _ _ _ => rfl) fx_no) (fx_cnd (fun _ _ _ _ _ _ _ _ => rfl) fx_no))))
theorem fk_48_0 (X : ez_X) (pc : Nat) : fx_ok X (ft_48_0 X pc) (ez_t48_0 pc) := by
  delta ft_48_0 ez_t48_0
  exact fx_cnd (fx_cnd (fx_cnd (fun _ _ _ _ _ _ _ _ => rfl) fx_no) (fx_cnd (fx_cnd (fun _ _ _ _ _ _ _ _ => rfl) fx_no) (fx_cnd (fun _ _ _ _ _ _ _ _ => rfl) fx_no))) (fx_cnd (fx_cnd (fun _ _ _ _ _ _ _ _ => rfl) fx_no) (fx_cnd (fx_cnd (fun _ _ _ _ _ _ _ _ => rfl) fx_no) (fx_cnd (fun _ _ _ _ _ _ _ _ => rfl) fx_no)))
theorem fk_48_1 (X : ez_X) (pc : Nat) : fx_ok X (ft_48_1 X pc) (ez_t48_1 pc) := by
  delta ft_48_1 ez_t48_1
  exact fx_cnd (fx_cnd (fx_cnd (fun _ _ _ _ _ _ _ _ => rfl) fx_no) (fx_cnd (fx_cnd (fun _ _ _ _ _ _ _ _ => rfl) fx_no) (fx_cnd (fun _ _ _ _ _ _ _ _ => rfl) fx_no))) (fx_cnd (fx_cnd (fx_cnd (fun _ _ _ _ _ _ _ _ => rfl) fx_no) (fx_cnd (fun _ _ _ _ _ _ _ _ => rfl) fx_no)) (fx_cnd (fx_cnd (fun _ _ _ _ _ _ _ _ => rfl) fx_no) (fx_cnd (fun _ _ _ _ _ _ _ _ => rfl) fx_no)))
theorem fk_48_2 (X : ez_X) (pc : Nat) : fx_ok X (ft_48_2 X pc) (ez_t48_2 pc) := by
  delta ft_48_2 ez_t48_2
  exact fx_cnd (fk_48_0 X pc) (fk_48_1 X pc)
theorem fk_48_3 (X : ez_X) (pc : Nat) : fx_ok X (ft_48_3 X pc) (ez_t48_3 pc) := by
  delta ft_48_3 ez_t48_3
  exact fx_cnd (fx_cnd (fx_cnd (fun _ _ _ _ _ _ _ _ => rfl) fx_no) (fx_cnd (fx_cnd (fun _ _ _ _ _ _ _ _ => rfl) fx_no) (fx_cnd (fun _ _ _ _ _ _ _ _ => rfl) fx_no))) (fx_cnd (fx_cnd (fx_cnd (fun _ _ _ _ _ _ _ _ => rfl) fx_no) (fx_cnd (fun _ _ _ _ _ _ _ _ => rfl) fx_no)) (fx_cnd (fx_cnd (fun _ _ _ _ _ _ _ _ => rfl) fx_no) (fx_cnd (fun _ _ _ _ _ _ _ _ => rfl) fx_no)))
theorem fk_48_4 (X : ez_X) (pc : Nat) : fx_ok X (ft_48_4 X pc) (ez_t48_4 pc) := by
  delta ft_48_4 ez_t48_4
  exact fx_cnd (fx_cnd (fx_cnd (fun _ _ _ _ _ _ _ _ => rfl) fx_no) (fx_cnd (fx_cnd (fun _ _ _ _ _ _ _ _ => rfl) fx_no) (fx_cnd (fun _ _ _ _ _ _ _ _ => rfl) fx_no))) (fx_cnd (fx_cnd (fx_cnd (fun _ _ _ _ _ _ _ _ => rfl) fx_no) (fx_cnd (fun _ _ _ _ _ _ _ _ => rfl) fx_no)) (fx_cnd (fx_cnd (fun _ _ _ _ _ _ _ _ => rfl) fx_no) (fx_cnd (fun _ _ _ _ _ _ _ _ => rfl) fx_no)))
theorem fk_48_5 (X : ez_X) (pc : Nat) : fx_ok X (ft_48_5 X pc) (ez_t48_5 pc) := by
  delta ft_48_5 ez_t48_5
  exact fx_cnd (fk_48_3 X pc) (fk_48_4 X pc)
theorem fk_48 (X : ez_X) (pc : Nat) : fx_ok X (ft_48 X pc) (ez_t48 pc) := by
  delta ft_48 ez_t48
  exact fx_cnd (fk_48_2 X pc) (fk_48_5 X pc)
theorem fk_49_0 (X : ez_X) (pc : Nat) : fx_ok X (ft_49_0 X pc) (ez_t49_0 pc) := by
  delta ft_49_0 ez_t49_0
  exact fx_cnd (fx_cnd (fx_cnd (fun _ _ _ _ _ _ _ _ => rfl) fx_no) (fx_cnd (fx_cnd (fun _ _ _ _ _ _ _ _ => rfl) fx_no) (fx_cnd (fun _ _ _ _ _ _ _ _ => rfl) fx_no))) (fx_cnd (fx_cnd (fx_cnd (fun _ _ _ _ _ _ _ _ => rfl) fx_no) (fx_cnd (fun _ _ _ _ _ _ _ _ => rfl) fx_no)) (fx_cnd (fx_cnd (fun _ _ _ _ _ _ _ _ => rfl) fx_no) (fx_cnd (fun _ _ _ _ _ _ _ _ => rfl) fx_no)))
theorem fk_49_1 (X : ez_X) (pc : Nat) : fx_ok X (ft_49_1 X pc) (ez_t49_1 pc) := by
  delta ft_49_1 ez_t49_1
  exact fx_cnd (fx_cnd (fx_cnd (fx_cnd (fun _ _ _ _ _ _ _ _ => rfl) fx_no) (fx_cnd (fun _ _ _ _ _ _ _ _ => rfl) fx_no)) (fx_cnd (fx_cnd (fun _ _ _ _ _ _ _ _ => rfl) fx_no) (fx_cnd (fun _ _ _ _ _ _ _ _ => rfl) fx_no))) (fx_cnd (fx_cnd (fx_cnd (fun _ _ _ _ _ _ _ _ => rfl) fx_no) (fx_cnd (fun _ _ _ _ _ _ _ _ => rfl) fx_no)) (fx_cnd (fx_cnd (fun _ _ _ _ _ _ _ _ => rfl) fx_no) (fx_cnd (fun _ _ _ _ _ _ _ _ => rfl) fx_no)))
theorem fk_49 (X : ez_X) (pc : Nat) : fx_ok X (ft_49 X pc) (ez_t49 pc) := by
  delta ft_49 ez_t49
  exact fx_cnd (fk_49_0 X pc) (fk_49_1 X pc)
theorem fk_50_0 (X : ez_X) (pc : Nat) : fx_ok X (ft_50_0 X pc) (ez_t50_0 pc) := by
  delta ft_50_0 ez_t50_0
  exact fx_cnd (fx_cnd (fx_cnd (fx_cnd (fun _ _ _ _ _ _ _ _ => rfl) fx_no) (fx_cnd (fun _ _ _ _ _ _ _ _ => rfl) fx_no)) (fx_cnd (fx_cnd (fun _ _ _ _ _ _ _ _ => rfl) fx_no) (fx_cnd (fun _ _ _ _ _ _ _ _ => rfl) fx_no))) (fx_cnd (fx_cnd (fx_cnd (fun _ _ _ _ _ _ _ _ => rfl) fx_no) (fx_cnd (fun _ _ _ _ _ _ _ _ => rfl) fx_no)) (fx_cnd (fx_cnd (fun _ _ _ _ _ _ _ _ => rfl) fx_no) (fx_cnd (fun _ _ _ _ _ _ _ _ => rfl) fx_no)))
theorem fk_50_1 (X : ez_X) (pc : Nat) : fx_ok X (ft_50_1 X pc) (ez_t50_1 pc) := by
  delta ft_50_1 ez_t50_1
  exact fx_cnd (fx_cnd (fx_cnd (fx_cnd (fun _ _ _ _ _ _ _ _ => rfl) fx_no) (fx_cnd (fun _ _ _ _ _ _ _ _ => rfl) fx_no)) (fx_cnd (fx_cnd (fun _ _ _ _ _ _ _ _ => rfl) fx_no) (fx_cnd (fun _ _ _ _ _ _ _ _ => rfl) fx_no))) (fx_cnd (fx_cnd (fx_cnd (fun _ _ _ _ _ _ _ _ => rfl) fx_no) (fx_cnd (fun _ _ _ _ _ _ _ _ => rfl) fx_no)) (fx_cnd (fx_cnd (fun _ _ _ _ _ _ _ _ => rfl) fx_no) (fx_cnd (fx_cnd (fun _ _ _ _ _ _ _ _ => rfl) fx_no) (fx_cnd (fun _ _ _ _ _ _ _ _ => rfl) fx_no))))
theorem fk_50_2 (X : ez_X) (pc : Nat) : fx_ok X (ft_50_2 X pc) (ez_t50_2 pc) := by
  delta ft_50_2 ez_t50_2
  exact fx_cnd (fk_50_0 X pc) (fk_50_1 X pc)
theorem fk_50_3 (X : ez_X) (pc : Nat) : fx_ok X (ft_50_3 X pc) (ez_t50_3 pc) := by
  delta ft_50_3 ez_t50_3
  exact fx_cnd (fx_cnd (fx_cnd (fx_cnd (fun _ _ _ _ _ _ _ _ => rfl) fx_no) (fx_cnd (fun _ _ _ _ _ _ _ _ => rfl) fx_no)) (fx_cnd (fx_cnd (fun _ _ _ _ _ _ _ _ => rfl) fx_no) (fx_cnd (fun _ _ _ _ _ _ _ _ => rfl) fx_no))) (fx_cnd (fx_cnd (fx_cnd (fun _ _ _ _ _ _ _ _ => rfl) fx_no) (fx_cnd (fun _ _ _ _ _ _ _ _ => rfl) fx_no)) (fx_cnd (fx_cnd (fun _ _ _ _ _ _ _ _ => rfl) fx_no) (fx_cnd (fun _ _ _ _ _ _ _ _ => rfl) fx_no)))
theorem fk_50_4 (X : ez_X) (pc : Nat) : fx_ok X (ft_50_4 X pc) (ez_t50_4 pc) := by
  delta ft_50_4 ez_t50_4
  exact fx_cnd (fx_cnd (fx_cnd (fx_cnd (fun _ _ _ _ _ _ _ _ => rfl) fx_no) (fx_cnd (fun _ _ _ _ _ _ _ _ => rfl) fx_no)) (fx_cnd (fx_cnd (fun _ _ _ _ _ _ _ _ => rfl) fx_no) (fx_cnd (fun _ _ _ _ _ _ _ _ => rfl) fx_no))) (fx_cnd (fx_cnd (fx_cnd (fun _ _ _ _ _ _ _ _ => rfl) fx_no) (fx_cnd (fun _ _ _ _ _ _ _ _ => rfl) fx_no)) (fx_cnd (fx_cnd (fun _ _ _ _ _ _ _ _ => rfl) fx_no) (fx_cnd (fx_cnd (fun _ _ _ _ _ _ _ _ => rfl) fx_no) (fx_cnd (fun _ _ _ _ _ _ _ _ => rfl) fx_no))))
theorem fk_50_5 (X : ez_X) (pc : Nat) : fx_ok X (ft_50_5 X pc) (ez_t50_5 pc) := by
  delta ft_50_5 ez_t50_5
  exact fx_cnd (fk_50_3 X pc) (fk_50_4 X pc)
theorem fk_50 (X : ez_X) (pc : Nat) : fx_ok X (ft_50 X pc) (ez_t50 pc) := by
  delta ft_50 ez_t50
  exact fx_cnd (fk_50_2 X pc) (fk_50_5 X pc)
theorem fk_51_0 (X : ez_X) (pc : Nat) : fx_ok X (ft_51_0 X pc) (ez_t51_0 pc) := by
  delta ft_51_0 ez_t51_0
  exact fx_cnd (fx_cnd (fx_cnd (fx_cnd (fun _ _ _ _ _ _ _ _ => rfl) fx_no) (fx_cnd (fun _ _ _ _ _ _ _ _ => rfl) fx_no)) (fx_cnd (fx_cnd (fun _ _ _ _ _ _ _ _ => rfl) fx_no) (fx_cnd (fun _ _ _ _ _ _ _ _ => rfl) fx_no))) (fx_cnd (fx_cnd (fx_cnd (fun _ _ _ _ _ _ _ _ => rfl) fx_no) (fx_cnd (fun _ _ _ _ _ _ _ _ => rfl) fx_no)) (fx_cnd (fx_cnd (fun _ _ _ _ _ _ _ _ => rfl) fx_no) (fx_cnd (fun _ _ _ _ _ _ _ _ => rfl) fx_no)))
theorem fk_51_1 (X : ez_X) (pc : Nat) : fx_ok X (ft_51_1 X pc) (ez_t51_1 pc) := by
  delta ft_51_1 ez_t51_1
  exact fx_cnd (fx_cnd (fx_cnd (fx_cnd (fun _ _ _ _ _ _ _ _ => rfl) fx_no) (fx_cnd (fun _ _ _ _ _ _ _ _ => rfl) fx_no)) (fx_cnd (fx_cnd (fun _ _ _ _ _ _ _ _ => rfl) fx_no) (fx_cnd (fun _ _ _ _ _ _ _ _ => rfl) fx_no))) (fx_cnd (fx_cnd (fx_cnd (fun _ _ _ _ _ _ _ _ => rfl) fx_no) (fx_cnd (fun _ _ _ _ _ _ _ _ => rfl) fx_no)) (fx_cnd (fx_cnd (fun _ _ _ _ _ _ _ _ => rfl) fx_no) (fx_cnd (fun _ _ _ _ _ _ _ _ => rfl) fx_no)))
theorem fk_51 (X : ez_X) (pc : Nat) : fx_ok X (ft_51 X pc) (ez_t51 pc) := by
  delta ft_51 ez_t51
  exact fx_cnd (fk_51_0 X pc) (fk_51_1 X pc)
theorem fk_52 (X : ez_X) (pc : Nat) : fx_ok X (ft_52 X pc) (ez_t52 pc) := by
  delta ft_52 ez_t52
  exact fx_cnd (fx_cnd (fx_cnd (fx_cnd (fun _ _ _ _ _ _ _ _ => rfl) fx_no) (fx_cnd (fx_cnd (fun _ _ _ _ _ _ _ _ => rfl) fx_no) (fx_cnd (fun _ _ _ _ _ _ _ _ => rfl) fx_no))) (fx_cnd (fx_cnd (fun _ _ _ _ _ _ _ _ => rfl) fx_no) (fx_cnd (fx_cnd (fun _ _ _ _ _ _ _ _ => rfl) fx_no) (fx_cnd (fun _ _ _ _ _ _ _ _ => rfl) fx_no)))) (fx_cnd (fx_cnd (fx_cnd (fun _ _ _ _ _ _ _ _ => rfl) fx_no) (fx_cnd (fx_cnd (fun _ _ _ _ _ _ _ _ => rfl) fx_no) (fx_cnd (fun _ _ _ _ _ _ _ _ => rfl) fx_no))) (fx_cnd (fx_cnd (fun _ _ _ _ _ _ _ _ => rfl) fx_no) (fx_cnd (fx_cnd (fun _ _ _ _ _ _ _ _ => rfl) fx_no) (fx_cnd (fun _ _ _ _ _ _ _ _ => rfl) fx_no))))
theorem fk_53_0 (X : ez_X) (pc : Nat) : fx_ok X (ft_53_0 X pc) (ez_t53_0 pc) := by
  delta ft_53_0 ez_t53_0
  exact fx_cnd (fx_cnd (fx_cnd (fx_cnd (fun _ _ _ _ _ _ _ _ => rfl) fx_no) (fx_cnd (fun _ _ _ _ _ _ _ _ => rfl) fx_no)) (fx_cnd (fx_cnd (fun _ _ _ _ _ _ _ _ => rfl) fx_no) (fx_cnd (fun _ _ _ _ _ _ _ _ => rfl) fx_no))) (fx_cnd (fx_cnd (fx_cnd (fun _ _ _ _ _ _ _ _ => rfl) fx_no) (fx_cnd (fun _ _ _ _ _ _ _ _ => rfl) fx_no)) (fx_cnd (fx_cnd (fun _ _ _ _ _ _ _ _ => rfl) fx_no) (fx_cnd (fun _ _ _ _ _ _ _ _ => rfl) fx_no)))
theorem fk_53_1 (X : ez_X) (pc : Nat) : fx_ok X (ft_53_1 X pc) (ez_t53_1 pc) := by
  delta ft_53_1 ez_t53_1
  exact fx_cnd (fx_cnd (fx_cnd (fx_cnd (fun _ _ _ _ _ _ _ _ => rfl) fx_no) (fx_cnd (fun _ _ _ _ _ _ _ _ => rfl) fx_no)) (fx_cnd (fx_cnd (fun _ _ _ _ _ _ _ _ => rfl) fx_no) (fx_cnd (fun _ _ _ _ _ _ _ _ => rfl) fx_no))) (fx_cnd (fx_cnd (fx_cnd (fun _ _ _ _ _ _ _ _ => rfl) fx_no) (fx_cnd (fun _ _ _ _ _ _ _ _ => rfl) fx_no)) (fx_cnd (fx_cnd (fun _ _ _ _ _ _ _ _ => rfl) fx_no) (fx_cnd (fun _ _ _ _ _ _ _ _ => rfl) fx_no)))
theorem fk_53_2 (X : ez_X) (pc : Nat) : fx_ok X (ft_53_2 X pc) (ez_t53_2 pc) := by
  delta ft_53_2 ez_t53_2
  exact fx_cnd (fk_53_0 X pc) (fk_53_1 X pc)
theorem fk_53_3 (X : ez_X) (pc : Nat) : fx_ok X (ft_53_3 X pc) (ez_t53_3 pc) := by
  delta ft_53_3 ez_t53_3
  exact fx_cnd (fx_cnd (fx_cnd (fx_cnd (fun _ _ _ _ _ _ _ _ => rfl) fx_no) (fx_cnd (fun _ _ _ _ _ _ _ _ => rfl) fx_no)) (fx_cnd (fx_cnd (fun _ _ _ _ _ _ _ _ => rfl) fx_no) (fx_cnd (fun _ _ _ _ _ _ _ _ => rfl) fx_no))) (fx_cnd (fx_cnd (fx_cnd (fun _ _ _ _ _ _ _ _ => rfl) fx_no) (fx_cnd (fun _ _ _ _ _ _ _ _ => rfl) fx_no)) (fx_cnd (fx_cnd (fun _ _ _ _ _ _ _ _ => rfl) fx_no) (fx_cnd (fun _ _ _ _ _ _ _ _ => rfl) fx_no)))
theorem fk_53_4 (X : ez_X) (pc : Nat) : fx_ok X (ft_53_4 X pc) (ez_t53_4 pc) := by
  delta ft_53_4 ez_t53_4
  exact fx_cnd (fx_cnd (fx_cnd (fx_cnd (fun _ _ _ _ _ _ _ _ => rfl) fx_no) (fx_cnd (fun _ _ _ _ _ _ _ _ => rfl) fx_no)) (fx_cnd (fx_cnd (fun _ _ _ _ _ _ _ _ => rfl) fx_no) (fx_cnd (fun _ _ _ _ _ _ _ _ => rfl) fx_no))) (fx_cnd (fx_cnd (fx_cnd (fun _ _ _ _ _ _ _ _ => rfl) fx_no) (fx_cnd (fun _ _ _ _ _ _ _ _ => rfl) fx_no)) (fx_cnd (fx_cnd (fun _ _ _ _ _ _ _ _ => rfl) fx_no) (fx_cnd (fun _ _ _ _ _ _ _ _ => rfl) fx_no)))
theorem fk_53_5 (X : ez_X) (pc : Nat) : fx_ok X (ft_53_5 X pc) (ez_t53_5 pc) := by
  delta ft_53_5 ez_t53_5
  exact fx_cnd (fk_53_3 X pc) (fk_53_4 X pc)
theorem fk_53 (X : ez_X) (pc : Nat) : fx_ok X (ft_53 X pc) (ez_t53 pc) := by
  delta ft_53 ez_t53
  exact fx_cnd (fk_53_2 X pc) (fk_53_5 X pc)
theorem fk_54_0 (X : ez_X) (pc : Nat) : fx_ok X (ft_54_0 X pc) (ez_t54_0 pc) := by
  delta ft_54_0 ez_t54_0
  exact fx_cnd (fx_cnd (fx_cnd (fx_cnd (fun _ _ _ _ _ _ _ _ => rfl) fx_no) (fx_cnd (fun _ _ _ _ _ _ _ _ => rfl) fx_no)) (fx_cnd (fx_cnd (fun _ _ _ _ _ _ _ _ => rfl) fx_no) (fx_cnd (fun _ _ _ _ _ _ _ _ => rfl) fx_no))) (fx_cnd (fx_cnd (fx_cnd (fun _ _ _ _ _ _ _ _ => rfl) fx_no) (fx_cnd (fun _ _ _ _ _ _ _ _ => rfl) fx_no)) (fx_cnd (fx_cnd (fun _ _ _ _ _ _ _ _ => rfl) fx_no) (fx_cnd (fun _ _ _ _ _ _ _ _ => rfl) fx_no)))
theorem fk_54_1 (X : ez_X) (pc : Nat) : fx_ok X (ft_54_1 X pc) (ez_t54_1 pc) := by
  delta ft_54_1 ez_t54_1
  exact fx_cnd (fx_cnd (fx_cnd (fx_cnd (fun _ _ _ _ _ _ _ _ => rfl) fx_no) (fx_cnd (fun _ _ _ _ _ _ _ _ => rfl) fx_no)) (fx_cnd (fx_cnd (fun _ _ _ _ _ _ _ _ => rfl) fx_no) (fx_cnd (fun _ _ _ _ _ _ _ _ => rfl) fx_no))) (fx_cnd (fx_cnd (fx_cnd (fun _ _ _ _ _ _ _ _ => rfl) fx_no) (fx_cnd (fun _ _ _ _ _ _ _ _ => rfl) fx_no)) (fx_cnd (fx_cnd (fun _ _ _ _ _ _ _ _ => rfl) fx_no) (fx_cnd (fx_cnd (fun _ _ _ _ _ _ _ _ => rfl) fx_no) (fx_cnd (fun _ _ _ _ _ _ _ _ => rfl) fx_no))))
theorem fk_54 (X : ez_X) (pc : Nat) : fx_ok X (ft_54 X pc) (ez_t54 pc) := by
  delta ft_54 ez_t54
  exact fx_cnd (fk_54_0 X pc) (fk_54_1 X pc)
theorem fk_55 (X : ez_X) (pc : Nat) : fx_ok X (ft_55 X pc) (ez_t55 pc) := by
  delta ft_55 ez_t55
  exact fx_cnd (fx_cnd (fx_cnd (fx_cnd (fun _ _ _ _ _ _ _ _ => rfl) fx_no) (fx_cnd (fun _ _ _ _ _ _ _ _ => rfl) fx_no)) (fx_cnd (fx_cnd (fun _ _ _ _ _ _ _ _ => rfl) fx_no) (fx_cnd (fx_cnd (fun _ _ _ _ _ _ _ _ => rfl) fx_no) (fx_cnd (fun _ _ _ _ _ _ _ _ => rfl) fx_no)))) (fx_cnd (fx_cnd (fx_cnd (fun _ _ _ _ _ _ _ _ => rfl) fx_no) (fx_cnd (fun _ _ _ _ _ _ _ _ => rfl) fx_no)) (fx_cnd (fx_cnd (fun _ _ _ _ _ _ _ _ => rfl) fx_no) (fx_cnd (fx_cnd (fun _ _ _ _ _ _ _ _ => rfl) fx_no) (fx_cnd (fun _ _ _ _ _ _ _ _ => rfl) fx_no))))
theorem fk_56_0 (X : ez_X) (pc : Nat) : fx_ok X (ft_56_0 X pc) (ez_t56_0 pc) := by
  delta ft_56_0 ez_t56_0
  exact fx_cnd (fx_cnd (fx_cnd (fx_cnd (fun _ _ _ _ _ _ _ _ => rfl) fx_no) (fx_cnd (fun _ _ _ _ _ _ _ _ => rfl) fx_no)) (fx_cnd (fx_cnd (fun _ _ _ _ _ _ _ _ => rfl) fx_no) (fx_cnd (fx_cnd (fun _ _ _ _ _ _ _ _ => rfl) fx_no) (fx_cnd (fun _ _ _ _ _ _ _ _ => rfl) fx_no)))) (fx_cnd (fx_cnd (fx_cnd (fun _ _ _ _ _ _ _ _ => rfl) fx_no) (fx_cnd (fun _ _ _ _ _ _ _ _ => rfl) fx_no)) (fx_cnd (fx_cnd (fun _ _ _ _ _ _ _ _ => rfl) fx_no) (fx_cnd (fx_cnd (fun _ _ _ _ _ _ _ _ => rfl) fx_no) (fx_cnd (fun _ _ _ _ _ _ _ _ => rfl) fx_no))))
theorem fk_56_1 (X : ez_X) (pc : Nat) : fx_ok X (ft_56_1 X pc) (ez_t56_1 pc) := by
  delta ft_56_1 ez_t56_1
  exact fx_cnd (fx_cnd (fx_cnd (fx_cnd (fun _ _ _ _ _ _ _ _ => rfl) fx_no) (fx_cnd (fun _ _ _ _ _ _ _ _ => rfl) fx_no)) (fx_cnd (fx_cnd (fun _ _ _ _ _ _ _ _ => rfl) fx_no) (fx_cnd (fx_cnd (fun _ _ _ _ _ _ _ _ => rfl) fx_no) (fx_cnd (fun _ _ _ _ _ _ _ _ => rfl) fx_no)))) (fx_cnd (fx_cnd (fx_cnd (fun _ _ _ _ _ _ _ _ => rfl) fx_no) (fx_cnd (fun _ _ _ _ _ _ _ _ => rfl) fx_no)) (fx_cnd (fx_cnd (fun _ _ _ _ _ _ _ _ => rfl) fx_no) (fx_cnd (fx_cnd (fun _ _ _ _ _ _ _ _ => rfl) fx_no) (fx_cnd (fun _ _ _ _ _ _ _ _ => rfl) fx_no))))
theorem fk_56_2 (X : ez_X) (pc : Nat) : fx_ok X (ft_56_2 X pc) (ez_t56_2 pc) := by
  delta ft_56_2 ez_t56_2
  exact fx_cnd (fk_56_0 X pc) (fk_56_1 X pc)
theorem fk_56_3 (X : ez_X) (pc : Nat) : fx_ok X (ft_56_3 X pc) (ez_t56_3 pc) := by
  delta ft_56_3 ez_t56_3
  exact fx_cnd (fx_cnd (fx_cnd (fx_cnd (fun _ _ _ _ _ _ _ _ => rfl) fx_no) (fx_cnd (fun _ _ _ _ _ _ _ _ => rfl) fx_no)) (fx_cnd (fx_cnd (fun _ _ _ _ _ _ _ _ => rfl) fx_no) (fx_cnd (fx_cnd (fun _ _ _ _ _ _ _ _ => rfl) fx_no) (fx_cnd (fun _ _ _ _ _ _ _ _ => rfl) fx_no)))) (fx_cnd (fx_cnd (fx_cnd (fun _ _ _ _ _ _ _ _ => rfl) fx_no) (fx_cnd (fun _ _ _ _ _ _ _ _ => rfl) fx_no)) (fx_cnd (fx_cnd (fun _ _ _ _ _ _ _ _ => rfl) fx_no) (fx_cnd (fx_cnd (fun _ _ _ _ _ _ _ _ => rfl) fx_no) (fx_cnd (fun _ _ _ _ _ _ _ _ => rfl) fx_no))))
theorem fk_56_4 (X : ez_X) (pc : Nat) : fx_ok X (ft_56_4 X pc) (ez_t56_4 pc) := by
  delta ft_56_4 ez_t56_4
  exact fx_cnd (fx_cnd (fx_cnd (fx_cnd (fun _ _ _ _ _ _ _ _ => rfl) fx_no) (fx_cnd (fun _ _ _ _ _ _ _ _ => rfl) fx_no)) (fx_cnd (fx_cnd (fun _ _ _ _ _ _ _ _ => rfl) fx_no) (fx_cnd (fx_cnd (fun _ _ _ _ _ _ _ _ => rfl) fx_no) (fx_cnd (fun _ _ _ _ _ _ _ _ => rfl) fx_no)))) (fx_cnd (fx_cnd (fx_cnd (fun _ _ _ _ _ _ _ _ => rfl) fx_no) (fx_cnd (fun _ _ _ _ _ _ _ _ => rfl) fx_no)) (fx_cnd (fx_cnd (fun _ _ _ _ _ _ _ _ => rfl) fx_no) (fx_cnd (fx_cnd (fun _ _ _ _ _ _ _ _ => rfl) fx_no) (fx_cnd (fun _ _ _ _ _ _ _ _ => rfl) fx_no))))
theorem fk_56_5 (X : ez_X) (pc : Nat) : fx_ok X (ft_56_5 X pc) (ez_t56_5 pc) := by
  delta ft_56_5 ez_t56_5
  exact fx_cnd (fk_56_3 X pc) (fk_56_4 X pc)
theorem fk_56 (X : ez_X) (pc : Nat) : fx_ok X (ft_56 X pc) (ez_t56 pc) := by
  delta ft_56 ez_t56
  exact fx_cnd (fk_56_2 X pc) (fk_56_5 X pc)
theorem fk_57_0 (X : ez_X) (pc : Nat) : fx_ok X (ft_57_0 X pc) (ez_t57_0 pc) := by
  delta ft_57_0 ez_t57_0
  exact fx_cnd (fx_cnd (fx_cnd (fx_cnd (fun _ _ _ _ _ _ _ _ => rfl) fx_no) (fx_cnd (fun _ _ _ _ _ _ _ _ => rfl) fx_no)) (fx_cnd (fx_cnd (fun _ _ _ _ _ _ _ _ => rfl) fx_no) (fx_cnd (fx_cnd (fun _ _ _ _ _ _ _ _ => rfl) fx_no) (fx_cnd (fun _ _ _ _ _ _ _ _ => rfl) fx_no)))) (fx_cnd (fx_cnd (fx_cnd (fun _ _ _ _ _ _ _ _ => rfl) fx_no) (fx_cnd (fun _ _ _ _ _ _ _ _ => rfl) fx_no)) (fx_cnd (fx_cnd (fun _ _ _ _ _ _ _ _ => rfl) fx_no) (fx_cnd (fx_cnd (fun _ _ _ _ _ _ _ _ => rfl) fx_no) (fx_cnd (fun _ _ _ _ _ _ _ _ => rfl) fx_no))))
theorem fk_57_1 (X : ez_X) (pc : Nat) : fx_ok X (ft_57_1 X pc) (ez_t57_1 pc) := by
  delta ft_57_1 ez_t57_1
  exact fx_cnd (fx_cnd (fx_cnd (fx_cnd (fun _ _ _ _ _ _ _ _ => rfl) fx_no) (fx_cnd (fun _ _ _ _ _ _ _ _ => rfl) fx_no)) (fx_cnd (fx_cnd (fun _ _ _ _ _ _ _ _ => rfl) fx_no) (fx_cnd (fx_cnd (fun _ _ _ _ _ _ _ _ => rfl) fx_no) (fx_cnd (fun _ _ _ _ _ _ _ _ => rfl) fx_no)))) (fx_cnd (fx_cnd (fx_cnd (fun _ _ _ _ _ _ _ _ => rfl) fx_no) (fx_cnd (fun _ _ _ _ _ _ _ _ => rfl) fx_no)) (fx_cnd (fx_cnd (fun _ _ _ _ _ _ _ _ => rfl) fx_no) (fx_cnd (fx_cnd (fun _ _ _ _ _ _ _ _ => rfl) fx_no) (fx_cnd (fun _ _ _ _ _ _ _ _ => rfl) fx_no))))
theorem fk_57 (X : ez_X) (pc : Nat) : fx_ok X (ft_57 X pc) (ez_t57 pc) := by
  delta ft_57 ez_t57
  exact fx_cnd (fk_57_0 X pc) (fk_57_1 X pc)
theorem fk_58_0 (X : ez_X) (pc : Nat) : fx_ok X (ft_58_0 X pc) (ez_t58_0 pc) := by
  delta ft_58_0 ez_t58_0
  exact fx_cnd (fx_cnd (fx_cnd (fun _ _ _ _ _ _ _ _ => rfl) fx_no) (fx_cnd (fx_cnd (fun _ _ _ _ _ _ _ _ => rfl) fx_no) (fx_cnd (fun _ _ _ _ _ _ _ _ => rfl) fx_no))) (fx_cnd (fx_cnd (fx_cnd (fun _ _ _ _ _ _ _ _ => rfl) fx_no) (fx_cnd (fun _ _ _ _ _ _ _ _ => rfl) fx_no)) (fx_cnd (fx_cnd (fun _ _ _ _ _ _ _ _ => rfl) fx_no) (fx_cnd (fun _ _ _ _ _ _ _ _ => rfl) fx_no)))
theorem fk_58_1 (X : ez_X) (pc : Nat) : fx_ok X (ft_58_1 X pc) (ez_t58_1 pc) := by
  delta ft_58_1 ez_t58_1
  exact fx_cnd (fx_cnd (fx_cnd (fun _ _ _ _ _ _ _ _ => rfl) fx_no) (fx_cnd (fx_cnd (fun _ _ _ _ _ _ _ _ => rfl) fx_no) (fx_cnd (fun _ _ _ _ _ _ _ _ => rfl) fx_no))) (fx_cnd (fx_cnd (fx_cnd (fun _ _ _ _ _ _ _ _ => rfl) fx_no) (fx_cnd (fun _ _ _ _ _ _ _ _ => rfl) fx_no)) (fx_cnd (fx_cnd (fun _ _ _ _ _ _ _ _ => rfl) fx_no) (fx_cnd (fun _ _ _ _ _ _ _ _ => rfl) fx_no)))
theorem fk_58_2 (X : ez_X) (pc : Nat) : fx_ok X (ft_58_2 X pc) (ez_t58_2 pc) := by
  delta ft_58_2 ez_t58_2
  exact fx_cnd (fk_58_0 X pc) (fk_58_1 X pc)
theorem fk_58_3 (X : ez_X) (pc : Nat) : fx_ok X (ft_58_3 X pc) (ez_t58_3 pc) := by
  delta ft_58_3 ez_t58_3
  exact fx_cnd (fx_cnd (fx_cnd (fun _ _ _ _ _ _ _ _ => rfl) fx_no) (fx_cnd (fx_cnd (fun _ _ _ _ _ _ _ _ => rfl) fx_no) (fx_cnd (fun _ _ _ _ _ _ _ _ => rfl) fx_no))) (fx_cnd (fx_cnd (fx_cnd (fun _ _ _ _ _ _ _ _ => rfl) fx_no) (fx_cnd (fun _ _ _ _ _ _ _ _ => rfl) fx_no)) (fx_cnd (fx_cnd (fun _ _ _ _ _ _ _ _ => rfl) fx_no) (fx_cnd (fun _ _ _ _ _ _ _ _ => rfl) fx_no)))
theorem fk_58_4 (X : ez_X) (pc : Nat) : fx_ok X (ft_58_4 X pc) (ez_t58_4 pc) := by
  delta ft_58_4 ez_t58_4
  exact fx_cnd (fx_cnd (fx_cnd (fun _ _ _ _ _ _ _ _ => rfl) fx_no) (fx_cnd (fx_cnd (fun _ _ _ _ _ _ _ _ => rfl) fx_no) (fx_cnd (fun _ _ _ _ _ _ _ _ => rfl) fx_no))) (fx_cnd (fx_cnd (fx_cnd (fun _ _ _ _ _ _ _ _ => rfl) fx_no) (fx_cnd (fun _ _ _ _ _ _ _ _ => rfl) fx_no)) (fx_cnd (fx_cnd (fun _ _ _ _ _ _ _ _ => rfl) fx_no) (fx_cnd (fun _ _ _ _ _ _ _ _ => rfl) fx_no)))
theorem fk_58_5 (X : ez_X) (pc : Nat) : fx_ok X (ft_58_5 X pc) (ez_t58_5 pc) := by
  delta ft_58_5 ez_t58_5
  exact fx_cnd (fk_58_3 X pc) (fk_58_4 X pc)
theorem fk_58 (X : ez_X) (pc : Nat) : fx_ok X (ft_58 X pc) (ez_t58 pc) := by
  delta ft_58 ez_t58
  exact fx_cnd (fk_58_2 X pc) (fk_58_5 X pc)
theorem fk_59 (X : ez_X) (pc : Nat) : fx_ok X (ft_59 X pc) (ez_t59 pc) := by
  delta ft_59 ez_t59
  exact fx_cnd (fx_cnd (fx_cnd (fx_cnd (fun _ _ _ _ _ _ _ _ => rfl) fx_no) (fx_cnd (fun _ _ _ _ _ _ _ _ => rfl) fx_no)) (fx_cnd (fx_cnd (fun _ _ _ _ _ _ _ _ => rfl) fx_no) (fx_cnd (fun _ _ _ _ _ _ _ _ => rfl) fx_no))) (fx_cnd (fx_cnd (fx_cnd (fun _ _ _ _ _ _ _ _ => rfl) fx_no) (fx_cnd (fun _ _ _ _ _ _ _ _ => rfl) fx_no)) (fx_cnd (fx_cnd (fun _ _ _ _ _ _ _ _ => rfl) fx_no) (fx_cnd (fx_cnd (fun _ _ _ _ _ _ _ _ => rfl) fx_no) (fx_cnd (fun _ _ _ _ _ _ _ _ => rfl) fx_no))))
theorem fk_60 (X : ez_X) (pc : Nat) : fx_ok X (ft_60 X pc) (ez_t60 pc) := by
  delta ft_60 ez_t60
  exact fx_cnd (fx_cnd (fx_cnd (fx_cnd (fun _ _ _ _ _ _ _ _ => rfl) fx_no) (fx_cnd (fun _ _ _ _ _ _ _ _ => rfl) fx_no)) (fx_cnd (fx_cnd (fun _ _ _ _ _ _ _ _ => rfl) fx_no) (fx_cnd (fx_cnd (fun _ _ _ _ _ _ _ _ => rfl) fx_no) (fx_cnd (fun _ _ _ _ _ _ _ _ => rfl) fx_no)))) (fx_cnd (fx_cnd (fx_cnd (fun _ _ _ _ _ _ _ _ => rfl) fx_no) (fx_cnd (fx_cnd (fun _ _ _ _ _ _ _ _ => rfl) fx_no) (fx_cnd (fun _ _ _ _ _ _ _ _ => rfl) fx_no))) (fx_cnd (fx_cnd (fun _ _ _ _ _ _ _ _ => rfl) fx_no) (fx_cnd (fx_cnd (fun _ _ _ _ _ _ _ _ => rfl) fx_no) (fx_cnd (fun _ _ _ _ _ _ _ _ => rfl) fx_no))))
theorem fk_61_0 (X : ez_X) (pc : Nat) : fx_ok X (ft_61_0 X pc) (ez_t61_0 pc) := by
  delta ft_61_0 ez_t61_0
  exact fx_cnd (fx_cnd (fx_cnd (fun _ _ _ _ _ _ _ _ => rfl) fx_no) (fx_cnd (fx_cnd (fun _ _ _ _ _ _ _ _ => rfl) fx_no) (fx_cnd (fun _ _ _ _ _ _ _ _ => rfl) fx_no))) (fx_cnd (fx_cnd (fun _ _ _ _ _ _ _ _ => rfl) fx_no) (fx_cnd (fx_cnd (fun _ _ _ _ _ _ _ _ => rfl) fx_no) (fx_cnd (fun _ _ _ _ _ _ _ _ => rfl) fx_no)))
theorem fk_61_1 (X : ez_X) (pc : Nat) : fx_ok X (ft_61_1 X pc) (ez_t61_1 pc) := by
  delta ft_61_1 ez_t61_1
  exact fx_cnd (fx_cnd (fx_cnd (fun _ _ _ _ _ _ _ _ => rfl) fx_no) (fx_cnd (fx_cnd (fun _ _ _ _ _ _ _ _ => rfl) fx_no) (fx_cnd (fun _ _ _ _ _ _ _ _ => rfl) fx_no))) (fx_cnd (fx_cnd (fx_cnd (fun _ _ _ _ _ _ _ _ => rfl) fx_no) (fx_cnd (fun _ _ _ _ _ _ _ _ => rfl) fx_no)) (fx_cnd (fx_cnd (fun _ _ _ _ _ _ _ _ => rfl) fx_no) (fx_cnd (fun _ _ _ _ _ _ _ _ => rfl) fx_no)))
theorem fk_61_2 (X : ez_X) (pc : Nat) : fx_ok X (ft_61_2 X pc) (ez_t61_2 pc) := by
  delta ft_61_2 ez_t61_2
  exact fx_cnd (fk_61_0 X pc) (fk_61_1 X pc)
theorem fk_61_3 (X : ez_X) (pc : Nat) : fx_ok X (ft_61_3 X pc) (ez_t61_3 pc) := by
  delta ft_61_3 ez_t61_3
  exact fx_cnd (fx_cnd (fx_cnd (fun _ _ _ _ _ _ _ _ => rfl) fx_no) (fx_cnd (fx_cnd (fun _ _ _ _ _ _ _ _ => rfl) fx_no) (fx_cnd (fun _ _ _ _ _ _ _ _ => rfl) fx_no))) (fx_cnd (fx_cnd (fun _ _ _ _ _ _ _ _ => rfl) fx_no) (fx_cnd (fx_cnd (fun _ _ _ _ _ _ _ _ => rfl) fx_no) (fx_cnd (fun _ _ _ _ _ _ _ _ => rfl) fx_no)))
theorem fk_61_4 (X : ez_X) (pc : Nat) : fx_ok X (ft_61_4 X pc) (ez_t61_4 pc) := by
  delta ft_61_4 ez_t61_4
  exact fx_cnd (fx_cnd (fx_cnd (fun _ _ _ _ _ _ _ _ => rfl) fx_no) (fx_cnd (fx_cnd (fun _ _ _ _ _ _ _ _ => rfl) fx_no) (fx_cnd (fun _ _ _ _ _ _ _ _ => rfl) fx_no))) (fx_cnd (fx_cnd (fx_cnd (fun _ _ _ _ _ _ _ _ => rfl) fx_no) (fx_cnd (fun _ _ _ _ _ _ _ _ => rfl) fx_no)) (fx_cnd (fx_cnd (fun _ _ _ _ _ _ _ _ => rfl) fx_no) (fx_cnd (fun _ _ _ _ _ _ _ _ => rfl) fx_no)))
theorem fk_61_5 (X : ez_X) (pc : Nat) : fx_ok X (ft_61_5 X pc) (ez_t61_5 pc) := by
  delta ft_61_5 ez_t61_5
  exact fx_cnd (fk_61_3 X pc) (fk_61_4 X pc)
theorem fk_61_6 (X : ez_X) (pc : Nat) : fx_ok X (ft_61_6 X pc) (ez_t61_6 pc) := by
  delta ft_61_6 ez_t61_6
  exact fx_cnd (fk_61_2 X pc) (fk_61_5 X pc)
theorem fk_61_7 (X : ez_X) (pc : Nat) : fx_ok X (ft_61_7 X pc) (ez_t61_7 pc) := by
  delta ft_61_7 ez_t61_7
  exact fx_cnd (fx_cnd (fx_cnd (fun _ _ _ _ _ _ _ _ => rfl) fx_no) (fx_cnd (fx_cnd (fun _ _ _ _ _ _ _ _ => rfl) fx_no) (fx_cnd (fun _ _ _ _ _ _ _ _ => rfl) fx_no))) (fx_cnd (fx_cnd (fun _ _ _ _ _ _ _ _ => rfl) fx_no) (fx_cnd (fx_cnd (fun _ _ _ _ _ _ _ _ => rfl) fx_no) (fx_cnd (fun _ _ _ _ _ _ _ _ => rfl) fx_no)))
theorem fk_61_8 (X : ez_X) (pc : Nat) : fx_ok X (ft_61_8 X pc) (ez_t61_8 pc) := by
  delta ft_61_8 ez_t61_8
  exact fx_cnd (fx_cnd (fx_cnd (fun _ _ _ _ _ _ _ _ => rfl) fx_no) (fx_cnd (fx_cnd (fun _ _ _ _ _ _ _ _ => rfl) fx_no) (fx_cnd (fun _ _ _ _ _ _ _ _ => rfl) fx_no))) (fx_cnd (fx_cnd (fx_cnd (fun _ _ _ _ _ _ _ _ => rfl) fx_no) (fx_cnd (fun _ _ _ _ _ _ _ _ => rfl) fx_no)) (fx_cnd (fx_cnd (fun _ _ _ _ _ _ _ _ => rfl) fx_no) (fx_cnd (fun _ _ _ _ _ _ _ _ => rfl) fx_no)))
theorem fk_61_9 (X : ez_X) (pc : Nat) : fx_ok X (ft_61_9 X pc) (ez_t61_9 pc) := by
  delta ft_61_9 ez_t61_9
  exact fx_cnd (fk_61_7 X pc) (fk_61_8 X pc)
theorem fk_61_10 (X : ez_X) (pc : Nat) : fx_ok X (ft_61_10 X pc) (ez_t61_10 pc) := by
  delta ft_61_10 ez_t61_10
  exact fx_cnd (fx_cnd (fx_cnd (fun _ _ _ _ _ _ _ _ => rfl) fx_no) (fx_cnd (fx_cnd (fun _ _ _ _ _ _ _ _ => rfl) fx_no) (fx_cnd (fun _ _ _ _ _ _ _ _ => rfl) fx_no))) (fx_cnd (fx_cnd (fun _ _ _ _ _ _ _ _ => rfl) fx_no) (fx_cnd (fx_cnd (fun _ _ _ _ _ _ _ _ => rfl) fx_no) (fx_cnd (fun _ _ _ _ _ _ _ _ => rfl) fx_no)))
theorem fk_61_11 (X : ez_X) (pc : Nat) : fx_ok X (ft_61_11 X pc) (ez_t61_11 pc) := by
  delta ft_61_11 ez_t61_11
  exact fx_cnd (fx_cnd (fx_cnd (fun _ _ _ _ _ _ _ _ => rfl) fx_no) (fx_cnd (fx_cnd (fun _ _ _ _ _ _ _ _ => rfl) fx_no) (fx_cnd (fun _ _ _ _ _ _ _ _ => rfl) fx_no))) (fx_cnd (fx_cnd (fx_cnd (fun _ _ _ _ _ _ _ _ => rfl) fx_no) (fx_cnd (fun _ _ _ _ _ _ _ _ => rfl) fx_no)) (fx_cnd (fx_cnd (fun _ _ _ _ _ _ _ _ => rfl) fx_no) (fx_cnd (fun _ _ _ _ _ _ _ _ => rfl) fx_no)))
theorem fk_61_12 (X : ez_X) (pc : Nat) : fx_ok X (ft_61_12 X pc) (ez_t61_12 pc) := by
  delta ft_61_12 ez_t61_12
  exact fx_cnd (fk_61_10 X pc) (fk_61_11 X pc)
theorem fk_61_13 (X : ez_X) (pc : Nat) : fx_ok X (ft_61_13 X pc) (ez_t61_13 pc) := by
  delta ft_61_13 ez_t61_13
  exact fx_cnd (fk_61_9 X pc) (fk_61_12 X pc)
theorem fk_61 (X : ez_X) (pc : Nat) : fx_ok X (ft_61 X pc) (ez_t61 pc) := by
  delta ft_61 ez_t61
  exact fx_cnd (fk_61_6 X pc) (fk_61_13 X pc)
theorem fk_62 (X : ez_X) (pc : Nat) : fx_ok X (ft_62 X pc) (ez_t62 pc) := by
  delta ft_62 ez_t62
  exact fx_cnd (fx_cnd (fx_cnd (fun _ _ _ _ _ _ _ _ => rfl) fx_no) (fx_cnd (fx_cnd (fun _ _ _ _ _ _ _ _ => rfl) fx_no) (fx_cnd (fun _ _ _ _ _ _ _ _ => rfl) fx_no))) (fx_cnd (fx_cnd (fx_cnd (fun _ _ _ _ _ _ _ _ => rfl) fx_no) (fx_cnd (fun _ _ _ _ _ _ _ _ => rfl) fx_no)) (fx_cnd (fx_cnd (fun _ _ _ _ _ _ _ _ => rfl) fx_no) (fx_cnd (fun _ _ _ _ _ _ _ _ => rfl) fx_no)))
theorem fk_63_0 (X : ez_X) (pc : Nat) : fx_ok X (ft_63_0 X pc) (ez_t63_0 pc) := by
  delta ft_63_0 ez_t63_0
  exact fx_cnd (fx_cnd (fx_cnd (fun _ _ _ _ _ _ _ _ => rfl) fx_no) (fx_cnd (fx_cnd (fun _ _ _ _ _ _ _ _ => rfl) fx_no) (fx_cnd (fun _ _ _ _ _ _ _ _ => rfl) fx_no))) (fx_cnd (fx_cnd (fun _ _ _ _ _ _ _ _ => rfl) fx_no) (fx_cnd (fx_cnd (fun _ _ _ _ _ _ _ _ => rfl) fx_no) (fx_cnd (fun _ _ _ _ _ _ _ _ => rfl) fx_no)))
theorem fk_63_1 (X : ez_X) (pc : Nat) : fx_ok X (ft_63_1 X pc) (ez_t63_1 pc) := by
  delta ft_63_1 ez_t63_1
  exact fx_cnd (fx_cnd (fx_cnd (fun _ _ _ _ _ _ _ _ => rfl) fx_no) (fx_cnd (fx_cnd (fun _ _ _ _ _ _ _ _ => rfl) fx_no) (fx_cnd (fun _ _ _ _ _ _ _ _ => rfl) fx_no))) (fx_cnd (fx_cnd (fx_cnd (fun _ _ _ _ _ _ _ _ => rfl) fx_no) (fx_cnd (fun _ _ _ _ _ _ _ _ => rfl) fx_no)) (fx_cnd (fx_cnd (fun _ _ _ _ _ _ _ _ => rfl) fx_no) (fx_cnd (fun _ _ _ _ _ _ _ _ => rfl) fx_no)))
theorem fk_63_2 (X : ez_X) (pc : Nat) : fx_ok X (ft_63_2 X pc) (ez_t63_2 pc) := by
  delta ft_63_2 ez_t63_2
  exact fx_cnd (fk_63_0 X pc) (fk_63_1 X pc)
theorem fk_63_3 (X : ez_X) (pc : Nat) : fx_ok X (ft_63_3 X pc) (ez_t63_3 pc) := by
  delta ft_63_3 ez_t63_3
  exact fx_cnd (fx_cnd (fx_cnd (fun _ _ _ _ _ _ _ _ => rfl) fx_no) (fx_cnd (fx_cnd (fun _ _ _ _ _ _ _ _ => rfl) fx_no) (fx_cnd (fun _ _ _ _ _ _ _ _ => rfl) fx_no))) (fx_cnd (fx_cnd (fx_cnd (fun _ _ _ _ _ _ _ _ => rfl) fx_no) (fx_cnd (fun _ _ _ _ _ _ _ _ => rfl) fx_no)) (fx_cnd (fx_cnd (fun _ _ _ _ _ _ _ _ => rfl) fx_no) (fx_cnd (fun _ _ _ _ _ _ _ _ => rfl) fx_no)))
theorem fk_63_4 (X : ez_X) (pc : Nat) : fx_ok X (ft_63_4 X pc) (ez_t63_4 pc) := by
  delta ft_63_4 ez_t63_4
  exact fx_cnd (fx_cnd (fx_cnd (fun _ _ _ _ _ _ _ _ => rfl) fx_no) (fx_cnd (fx_cnd (fun _ _ _ _ _ _ _ _ => rfl) fx_no) (fx_cnd (fun _ _ _ _ _ _ _ _ => rfl) fx_no))) (fx_cnd (fx_cnd (fx_cnd (fun _ _ _ _ _ _ _ _ => rfl) fx_no) (fx_cnd (fun _ _ _ _ _ _ _ _ => rfl) fx_no)) (fx_cnd (fx_cnd (fun _ _ _ _ _ _ _ _ => rfl) fx_no) (fx_cnd (fun _ _ _ _ _ _ _ _ => rfl) fx_no)))
theorem fk_63_5 (X : ez_X) (pc : Nat) : fx_ok X (ft_63_5 X pc) (ez_t63_5 pc) := by
  delta ft_63_5 ez_t63_5
  exact fx_cnd (fk_63_3 X pc) (fk_63_4 X pc)
theorem fk_63 (X : ez_X) (pc : Nat) : fx_ok X (ft_63 X pc) (ez_t63 pc) := by
  delta ft_63 ez_t63
  exact fx_cnd (fk_63_2 X pc) (fk_63_5 X pc)
theorem fk_64_0 (X : ez_X) (pc : Nat) : fx_ok X (ft_64_0 X pc) (ez_t64_0 pc) := by
  delta ft_64_0 ez_t64_0
  exact fx_cnd (fx_cnd (fx_cnd (fx_cnd (fun _ _ _ _ _ _ _ _ => rfl) fx_no) (fx_cnd (fx_cnd (fun _ _ _ _ _ _ _ _ => rfl) fx_no) (fx_cnd (fun _ _ _ _ _ _ _ _ => rfl) fx_no))) (fx_cnd (fx_cnd (fun _ _ _ _ _ _ _ _ => rfl) fx_no) (fx_cnd (fx_cnd (fun _ _ _ _ _ _ _ _ => rfl) fx_no) (fx_cnd (fun _ _ _ _ _ _ _ _ => rfl) fx_no)))) (fx_cnd (fx_cnd (fx_cnd (fun _ _ _ _ _ _ _ _ => rfl) fx_no) (fx_cnd (fx_cnd (fun _ _ _ _ _ _ _ _ => rfl) fx_no) (fx_cnd (fun _ _ _ _ _ _ _ _ => rfl) fx_no))) (fx_cnd (fx_cnd (fun _ _ _ _ _ _ _ _ => rfl) fx_no) (fx_cnd (fx_cnd (fun _ _ _ _ _ _ _ _ => rfl) fx_no) (fx_cnd (fun _ _ _ _ _ _ _ _ => rfl) fx_no))))
theorem fk_64_1 (X : ez_X) (pc : Nat) : fx_ok X (ft_64_1 X pc) (ez_t64_1 pc) := by
  delta ft_64_1 ez_t64_1
  exact fx_cnd (fx_cnd (fx_cnd (fx_cnd (fun _ _ _ _ _ _ _ _ => rfl) fx_no) (fx_cnd (fx_cnd (fun _ _ _ _ _ _ _ _ => rfl) fx_no) (fx_cnd (fun _ _ _ _ _ _ _ _ => rfl) fx_no))) (fx_cnd (fx_cnd (fun _ _ _ _ _ _ _ _ => rfl) fx_no) (fx_cnd (fx_cnd (fun _ _ _ _ _ _ _ _ => rfl) fx_no) (fx_cnd (fun _ _ _ _ _ _ _ _ => rfl) fx_no)))) (fx_cnd (fx_cnd (fx_cnd (fun _ _ _ _ _ _ _ _ => rfl) fx_no) (fx_cnd (fx_cnd (fun _ _ _ _ _ _ _ _ => rfl) fx_no) (fx_cnd (fun _ _ _ _ _ _ _ _ => rfl) fx_no))) (fx_cnd (fx_cnd (fun _ _ _ _ _ _ _ _ => rfl) fx_no) (fx_cnd (fx_cnd (fun _ _ _ _ _ _ _ _ => rfl) fx_no) (fx_cnd (fun _ _ _ _ _ _ _ _ => rfl) fx_no))))
theorem fk_64 (X : ez_X) (pc : Nat) : fx_ok X (ft_64 X pc) (ez_t64 pc) := by
  delta ft_64 ez_t64
  exact fx_cnd (fk_64_0 X pc) (fk_64_1 X pc)
theorem fk_65 (X : ez_X) (pc : Nat) : fx_ok X (ft_65 X pc) (ez_t65 pc) := by
  delta ft_65 ez_t65
  exact fx_cnd (fx_cnd (fx_cnd (fun _ _ _ _ _ _ _ _ => rfl) fx_no) (fx_cnd (fun _ _ _ _ _ _ _ _ => rfl) fx_no)) (fx_cnd (fx_cnd (fun _ _ _ _ _ _ _ _ => rfl) fx_no) (fx_cnd (fx_cnd (fun _ _ _ _ _ _ _ _ => rfl) fx_no) (fx_cnd (fun _ _ _ _ _ _ _ _ => rfl) fx_no)))
theorem fk_66_0 (X : ez_X) (pc : Nat) : fx_ok X (ft_66_0 X pc) (ez_t66_0 pc) := by
  delta ft_66_0 ez_t66_0
  exact fx_cnd (fx_cnd (fx_cnd (fun _ _ _ _ _ _ _ _ => rfl) fx_no) (fx_cnd (fx_cnd (fun _ _ _ _ _ _ _ _ => rfl) fx_no) (fx_cnd (fun _ _ _ _ _ _ _ _ => rfl) fx_no))) (fx_cnd (fx_cnd (fx_cnd (fun _ _ _ _ _ _ _ _ => rfl) fx_no) (fx_cnd (fun _ _ _ _ _ _ _ _ => rfl) fx_no)) (fx_cnd (fx_cnd (fun _ _ _ _ _ _ _ _ => rfl) fx_no) (fx_cnd (fun _ _ _ _ _ _ _ _ => rfl) fx_no)))
theorem fk_66_1 (X : ez_X) (pc : Nat) : fx_ok X (ft_66_1 X pc) (ez_t66_1 pc) := by
  delta ft_66_1 ez_t66_1
  exact fx_cnd (fx_cnd (fx_cnd (fx_cnd (fun _ _ _ _ _ _ _ _ => rfl) fx_no) (fx_cnd (fun _ _ _ _ _ _ _ _ => rfl) fx_no)) (fx_cnd (fx_cnd (fun _ _ _ _ _ _ _ _ => rfl) fx_no) (fx_cnd (fun _ _ _ _ _ _ _ _ => rfl) fx_no))) (fx_cnd (fx_cnd (fx_cnd (fun _ _ _ _ _ _ _ _ => rfl) fx_no) (fx_cnd (fun _ _ _ _ _ _ _ _ => rfl) fx_no)) (fx_cnd (fx_cnd (fun _ _ _ _ _ _ _ _ => rfl) fx_no) (fx_cnd (fun _ _ _ _ _ _ _ _ => rfl) fx_no)))
theorem fk_66_2 (X : ez_X) (pc : Nat) : fx_ok X (ft_66_2 X pc) (ez_t66_2 pc) := by
  delta ft_66_2 ez_t66_2
  exact fx_cnd (fk_66_0 X pc) (fk_66_1 X pc)
theorem fk_66_3 (X : ez_X) (pc : Nat) : fx_ok X (ft_66_3 X pc) (ez_t66_3 pc) := by
  delta ft_66_3 ez_t66_3
  exact fx_cnd (fx_cnd (fx_cnd (fun _ _ _ _ _ _ _ _ => rfl) fx_no) (fx_cnd (fx_cnd (fun _ _ _ _ _ _ _ _ => rfl) fx_no) (fx_cnd (fun _ _ _ _ _ _ _ _ => rfl) fx_no))) (fx_cnd (fx_cnd (fx_cnd (fun _ _ _ _ _ _ _ _ => rfl) fx_no) (fx_cnd (fun _ _ _ _ _ _ _ _ => rfl) fx_no)) (fx_cnd (fx_cnd (fun _ _ _ _ _ _ _ _ => rfl) fx_no) (fx_cnd (fun _ _ _ _ _ _ _ _ => rfl) fx_no)))
theorem fk_66_4 (X : ez_X) (pc : Nat) : fx_ok X (ft_66_4 X pc) (ez_t66_4 pc) := by
  delta ft_66_4 ez_t66_4
  exact fx_cnd (fx_cnd (fx_cnd (fx_cnd (fun _ _ _ _ _ _ _ _ => rfl) fx_no) (fx_cnd (fun _ _ _ _ _ _ _ _ => rfl) fx_no)) (fx_cnd (fx_cnd (fun _ _ _ _ _ _ _ _ => rfl) fx_no) (fx_cnd (fun _ _ _ _ _ _ _ _ => rfl) fx_no))) (fx_cnd (fx_cnd (fx_cnd (fun _ _ _ _ _ _ _ _ => rfl) fx_no) (fx_cnd (fun _ _ _ _ _ _ _ _ => rfl) fx_no)) (fx_cnd (fx_cnd (fun _ _ _ _ _ _ _ _ => rfl) fx_no) (fx_cnd (fun _ _ _ _ _ _ _ _ => rfl) fx_no)))
theorem fk_66_5 (X : ez_X) (pc : Nat) : fx_ok X (ft_66_5 X pc) (ez_t66_5 pc) := by
  delta ft_66_5 ez_t66_5
  exact fx_cnd (fk_66_3 X pc) (fk_66_4 X pc)
theorem fk_66 (X : ez_X) (pc : Nat) : fx_ok X (ft_66 X pc) (ez_t66 pc) := by
  delta ft_66 ez_t66
  exact fx_cnd (fk_66_2 X pc) (fk_66_5 X pc)
theorem fk_67_0 (X : ez_X) (pc : Nat) : fx_ok X (ft_67_0 X pc) (ez_t67_0 pc) := by
  delta ft_67_0 ez_t67_0
  exact fx_cnd (fx_cnd (fx_cnd (fun _ _ _ _ _ _ _ _ => rfl) fx_no) (fx_cnd (fx_cnd (fun _ _ _ _ _ _ _ _ => rfl) fx_no) (fx_cnd (fun _ _ _ _ _ _ _ _ => rfl) fx_no))) (fx_cnd (fx_cnd (fx_cnd (fun _ _ _ _ _ _ _ _ => rfl) fx_no) (fx_cnd (fun _ _ _ _ _ _ _ _ => rfl) fx_no)) (fx_cnd (fx_cnd (fun _ _ _ _ _ _ _ _ => rfl) fx_no) (fx_cnd (fun _ _ _ _ _ _ _ _ => rfl) fx_no)))
theorem fk_67_1 (X : ez_X) (pc : Nat) : fx_ok X (ft_67_1 X pc) (ez_t67_1 pc) := by
  delta ft_67_1 ez_t67_1
  exact fx_cnd (fx_cnd (fx_cnd (fx_cnd (fun _ _ _ _ _ _ _ _ => rfl) fx_no) (fx_cnd (fun _ _ _ _ _ _ _ _ => rfl) fx_no)) (fx_cnd (fx_cnd (fun _ _ _ _ _ _ _ _ => rfl) fx_no) (fx_cnd (fun _ _ _ _ _ _ _ _ => rfl) fx_no))) (fx_cnd (fx_cnd (fx_cnd (fun _ _ _ _ _ _ _ _ => rfl) fx_no) (fx_cnd (fun _ _ _ _ _ _ _ _ => rfl) fx_no)) (fx_cnd (fx_cnd (fun _ _ _ _ _ _ _ _ => rfl) fx_no) (fx_cnd (fun _ _ _ _ _ _ _ _ => rfl) fx_no)))
theorem fk_67_2 (X : ez_X) (pc : Nat) : fx_ok X (ft_67_2 X pc) (ez_t67_2 pc) := by
  delta ft_67_2 ez_t67_2
  exact fx_cnd (fk_67_0 X pc) (fk_67_1 X pc)
theorem fk_67_3 (X : ez_X) (pc : Nat) : fx_ok X (ft_67_3 X pc) (ez_t67_3 pc) := by
  delta ft_67_3 ez_t67_3
  exact fx_cnd (fx_cnd (fx_cnd (fx_cnd (fun _ _ _ _ _ _ _ _ => rfl) fx_no) (fx_cnd (fun _ _ _ _ _ _ _ _ => rfl) fx_no)) (fx_cnd (fx_cnd (fun _ _ _ _ _ _ _ _ => rfl) fx_no) (fx_cnd (fun _ _ _ _ _ _ _ _ => rfl) fx_no))) (fx_cnd (fx_cnd (fx_cnd (fun _ _ _ _ _ _ _ _ => rfl) fx_no) (fx_cnd (fun _ _ _ _ _ _ _ _ => rfl) fx_no)) (fx_cnd (fx_cnd (fun _ _ _ _ _ _ _ _ => rfl) fx_no) (fx_cnd (fun _ _ _ _ _ _ _ _ => rfl) fx_no)))
theorem fk_67_4 (X : ez_X) (pc : Nat) : fx_ok X (ft_67_4 X pc) (ez_t67_4 pc) := by
  delta ft_67_4 ez_t67_4
  exact fx_cnd (fx_cnd (fx_cnd (fx_cnd (fun _ _ _ _ _ _ _ _ => rfl) fx_no) (fx_cnd (fun _ _ _ _ _ _ _ _ => rfl) fx_no)) (fx_cnd (fx_cnd (fun _ _ _ _ _ _ _ _ => rfl) fx_no) (fx_cnd (fun _ _ _ _ _ _ _ _ => rfl) fx_no))) (fx_cnd (fx_cnd (fx_cnd (fun _ _ _ _ _ _ _ _ => rfl) fx_no) (fx_cnd (fun _ _ _ _ _ _ _ _ => rfl) fx_no)) (fx_cnd (fx_cnd (fun _ _ _ _ _ _ _ _ => rfl) fx_no) (fx_cnd (fun _ _ _ _ _ _ _ _ => rfl) fx_no)))
theorem fk_67_5 (X : ez_X) (pc : Nat) : fx_ok X (ft_67_5 X pc) (ez_t67_5 pc) := by
  delta ft_67_5 ez_t67_5
  exact fx_cnd (fk_67_3 X pc) (fk_67_4 X pc)
theorem fk_67_6 (X : ez_X) (pc : Nat) : fx_ok X (ft_67_6 X pc) (ez_t67_6 pc) := by
  delta ft_67_6 ez_t67_6
  exact fx_cnd (fk_67_2 X pc) (fk_67_5 X pc)
theorem fk_67_7 (X : ez_X) (pc : Nat) : fx_ok X (ft_67_7 X pc) (ez_t67_7 pc) := by
  delta ft_67_7 ez_t67_7
  exact fx_cnd (fx_cnd (fx_cnd (fx_cnd (fun _ _ _ _ _ _ _ _ => rfl) fx_no) (fx_cnd (fun _ _ _ _ _ _ _ _ => rfl) fx_no)) (fx_cnd (fx_cnd (fun _ _ _ _ _ _ _ _ => rfl) fx_no) (fx_cnd (fun _ _ _ _ _ _ _ _ => rfl) fx_no))) (fx_cnd (fx_cnd (fx_cnd (fun _ _ _ _ _ _ _ _ => rfl) fx_no) (fx_cnd (fun _ _ _ _ _ _ _ _ => rfl) fx_no)) (fx_cnd (fx_cnd (fun _ _ _ _ _ _ _ _ => rfl) fx_no) (fx_cnd (fun _ _ _ _ _ _ _ _ => rfl) fx_no)))
theorem fk_67_8 (X : ez_X) (pc : Nat) : fx_ok X (ft_67_8 X pc) (ez_t67_8 pc) := by
  delta ft_67_8 ez_t67_8
  exact fx_cnd (fx_cnd (fx_cnd (fx_cnd (fun _ _ _ _ _ _ _ _ => rfl) fx_no) (fx_cnd (fun _ _ _ _ _ _ _ _ => rfl) fx_no)) (fx_cnd (fx_cnd (fun _ _ _ _ _ _ _ _ => rfl) fx_no) (fx_cnd (fun _ _ _ _ _ _ _ _ => rfl) fx_no))) (fx_cnd (fx_cnd (fx_cnd (fun _ _ _ _ _ _ _ _ => rfl) fx_no) (fx_cnd (fun _ _ _ _ _ _ _ _ => rfl) fx_no)) (fx_cnd (fx_cnd (fun _ _ _ _ _ _ _ _ => rfl) fx_no) (fx_cnd (fun _ _ _ _ _ _ _ _ => rfl) fx_no)))
theorem fk_67_9 (X : ez_X) (pc : Nat) : fx_ok X (ft_67_9 X pc) (ez_t67_9 pc) := by
  delta ft_67_9 ez_t67_9
  exact fx_cnd (fk_67_7 X pc) (fk_67_8 X pc)
theorem fk_67_10 (X : ez_X) (pc : Nat) : fx_ok X (ft_67_10 X pc) (ez_t67_10 pc) := by
  delta ft_67_10 ez_t67_10
  exact fx_cnd (fx_cnd (fx_cnd (fx_cnd (fun _ _ _ _ _ _ _ _ => rfl) fx_no) (fx_cnd (fun _ _ _ _ _ _ _ _ => rfl) fx_no)) (fx_cnd (fx_cnd (fun _ _ _ _ _ _ _ _ => rfl) fx_no) (fx_cnd (fun _ _ _ _ _ _ _ _ => rfl) fx_no))) (fx_cnd (fx_cnd (fx_cnd (fun _ _ _ _ _ _ _ _ => rfl) fx_no) (fx_cnd (fun _ _ _ _ _ _ _ _ => rfl) fx_no)) (fx_cnd (fx_cnd (fun _ _ _ _ _ _ _ _ => rfl) fx_no) (fx_cnd (fun _ _ _ _ _ _ _ _ => rfl) fx_no)))
theorem fk_67_11 (X : ez_X) (pc : Nat) : fx_ok X (ft_67_11 X pc) (ez_t67_11 pc) := by
  delta ft_67_11 ez_t67_11
  exact fx_cnd (fx_cnd (fx_cnd (fx_cnd (fun _ _ _ _ _ _ _ _ => rfl) fx_no) (fx_cnd (fun _ _ _ _ _ _ _ _ => rfl) fx_no)) (fx_cnd (fx_cnd (fun _ _ _ _ _ _ _ _ => rfl) fx_no) (fx_cnd (fun _ _ _ _ _ _ _ _ => rfl) fx_no))) (fx_cnd (fx_cnd (fx_cnd (fun _ _ _ _ _ _ _ _ => rfl) fx_no) (fx_cnd (fun _ _ _ _ _ _ _ _ => rfl) fx_no)) (fx_cnd (fx_cnd (fun _ _ _ _ _ _ _ _ => rfl) fx_no) (fx_cnd (fun _ _ _ _ _ _ _ _ => rfl) fx_no)))
theorem fk_67_12 (X : ez_X) (pc : Nat) : fx_ok X (ft_67_12 X pc) (ez_t67_12 pc) := by
  delta ft_67_12 ez_t67_12
  exact fx_cnd (fk_67_10 X pc) (fk_67_11 X pc)
theorem fk_67_13 (X : ez_X) (pc : Nat) : fx_ok X (ft_67_13 X pc) (ez_t67_13 pc) := by
  delta ft_67_13 ez_t67_13
  exact fx_cnd (fk_67_9 X pc) (fk_67_12 X pc)
theorem fk_67 (X : ez_X) (pc : Nat) : fx_ok X (ft_67 X pc) (ez_t67 pc) := by
  delta ft_67 ez_t67
  exact fx_cnd (fk_67_6 X pc) (fk_67_13 X pc)
theorem fk_68_0 (X : ez_X) (pc : Nat) : fx_ok X (ft_68_0 X pc) (ez_t68_0 pc) := by
  delta ft_68_0 ez_t68_0
  exact fx_cnd (fx_cnd (fx_cnd (fx_cnd (fun _ _ _ _ _ _ _ _ => rfl) fx_no) (fx_cnd (fun _ _ _ _ _ _ _ _ => rfl) fx_no)) (fx_cnd (fx_cnd (fun _ _ _ _ _ _ _ _ => rfl) fx_no) (fx_cnd (fun _ _ _ _ _ _ _ _ => rfl) fx_no))) (fx_cnd (fx_cnd (fx_cnd (fun _ _ _ _ _ _ _ _ => rfl) fx_no) (fx_cnd (fun _ _ _ _ _ _ _ _ => rfl) fx_no)) (fx_cnd (fx_cnd (fun _ _ _ _ _ _ _ _ => rfl) fx_no) (fx_cnd (fx_cnd (fun _ _ _ _ _ _ _ _ => rfl) fx_no) (fx_cnd (fun _ _ _ _ _ _ _ _ => rfl) fx_no))))
theorem fk_68_1 (X : ez_X) (pc : Nat) : fx_ok X (ft_68_1 X pc) (ez_t68_1 pc) := by
  delta ft_68_1 ez_t68_1
  exact fx_cnd (fx_cnd (fx_cnd (fx_cnd (fun _ _ _ _ _ _ _ _ => rfl) fx_no) (fx_cnd (fun _ _ _ _ _ _ _ _ => rfl) fx_no)) (fx_cnd (fx_cnd (fun _ _ _ _ _ _ _ _ => rfl) fx_no) (fx_cnd (fun _ _ _ _ _ _ _ _ => rfl) fx_no))) (fx_cnd (fx_cnd (fx_cnd (fun _ _ _ _ _ _ _ _ => rfl) fx_no) (fx_cnd (fun _ _ _ _ _ _ _ _ => rfl) fx_no)) (fx_cnd (fx_cnd (fun _ _ _ _ _ _ _ _ => rfl) fx_no) (fx_cnd (fx_cnd (fun _ _ _ _ _ _ _ _ => rfl) fx_no) (fx_cnd (fun _ _ _ _ _ _ _ _ => rfl) fx_no))))
theorem fk_68_2 (X : ez_X) (pc : Nat) : fx_ok X (ft_68_2 X pc) (ez_t68_2 pc) := by
  delta ft_68_2 ez_t68_2
  exact fx_cnd (fk_68_0 X pc) (fk_68_1 X pc)
theorem fk_68_3 (X : ez_X) (pc : Nat) : fx_ok X (ft_68_3 X pc) (ez_t68_3 pc) := by
  delta ft_68_3 ez_t68_3
  exact fx_cnd (fx_cnd (fx_cnd (fx_cnd (fun _ _ _ _ _ _ _ _ => rfl) fx_no) (fx_cnd (fun _ _ _ _ _ _ _ _ => rfl) fx_no)) (fx_cnd (fx_cnd (fun _ _ _ _ _ _ _ _ => rfl) fx_no) (fx_cnd (fun _ _ _ _ _ _ _ _ => rfl) fx_no))) (fx_cnd (fx_cnd (fx_cnd (fun _ _ _ _ _ _ _ _ => rfl) fx_no) (fx_cnd (fun _ _ _ _ _ _ _ _ => rfl) fx_no)) (fx_cnd (fx_cnd (fun _ _ _ _ _ _ _ _ => rfl) fx_no) (fx_cnd (fx_cnd (fun _ _ _ _ _ _ _ _ => rfl) fx_no) (fx_cnd (fun _ _ _ _ _ _ _ _ => rfl) fx_no))))
theorem fk_68_4 (X : ez_X) (pc : Nat) : fx_ok X (ft_68_4 X pc) (ez_t68_4 pc) := by
  delta ft_68_4 ez_t68_4
  exact fx_cnd (fx_cnd (fx_cnd (fx_cnd (fun _ _ _ _ _ _ _ _ => rfl) fx_no) (fx_cnd (fun _ _ _ _ _ _ _ _ => rfl) fx_no)) (fx_cnd (fx_cnd (fun _ _ _ _ _ _ _ _ => rfl) fx_no) (fx_cnd (fun _ _ _ _ _ _ _ _ => rfl) fx_no))) (fx_cnd (fx_cnd (fx_cnd (fun _ _ _ _ _ _ _ _ => rfl) fx_no) (fx_cnd (fun _ _ _ _ _ _ _ _ => rfl) fx_no)) (fx_cnd (fx_cnd (fun _ _ _ _ _ _ _ _ => rfl) fx_no) (fx_cnd (fx_cnd (fun _ _ _ _ _ _ _ _ => rfl) fx_no) (fx_cnd (fun _ _ _ _ _ _ _ _ => rfl) fx_no))))
theorem fk_68_5 (X : ez_X) (pc : Nat) : fx_ok X (ft_68_5 X pc) (ez_t68_5 pc) := by
  delta ft_68_5 ez_t68_5
  exact fx_cnd (fk_68_3 X pc) (fk_68_4 X pc)
theorem fk_68 (X : ez_X) (pc : Nat) : fx_ok X (ft_68 X pc) (ez_t68 pc) := by
  delta ft_68 ez_t68
  exact fx_cnd (fk_68_2 X pc) (fk_68_5 X pc)
theorem fk_69_0 (X : ez_X) (pc : Nat) : fx_ok X (ft_69_0 X pc) (ez_t69_0 pc) := by
  delta ft_69_0 ez_t69_0
  exact fx_cnd (fx_cnd (fx_cnd (fx_cnd (fun _ _ _ _ _ _ _ _ => rfl) fx_no) (fx_cnd (fun _ _ _ _ _ _ _ _ => rfl) fx_no)) (fx_cnd (fx_cnd (fun _ _ _ _ _ _ _ _ => rfl) fx_no) (fx_cnd (fx_cnd (fun _ _ _ _ _ _ _ _ => rfl) fx_no) (fx_cnd (fun _ _ _ _ _ _ _ _ => rfl) fx_no)))) (fx_cnd (fx_cnd (fx_cnd (fun _ _ _ _ _ _ _ _ => rfl) fx_no) (fx_cnd (fun _ _ _ _ _ _ _ _ => rfl) fx_no)) (fx_cnd (fx_cnd (fun _ _ _ _ _ _ _ _ => rfl) fx_no) (fx_cnd (fx_cnd (fun _ _ _ _ _ _ _ _ => rfl) fx_no) (fx_cnd (fun _ _ _ _ _ _ _ _ => rfl) fx_no))))
theorem fk_69_1 (X : ez_X) (pc : Nat) : fx_ok X (ft_69_1 X pc) (ez_t69_1 pc) := by
  delta ft_69_1 ez_t69_1
  exact fx_cnd (fx_cnd (fx_cnd (fx_cnd (fun _ _ _ _ _ _ _ _ => rfl) fx_no) (fx_cnd (fun _ _ _ _ _ _ _ _ => rfl) fx_no)) (fx_cnd (fx_cnd (fun _ _ _ _ _ _ _ _ => rfl) fx_no) (fx_cnd (fx_cnd (fun _ _ _ _ _ _ _ _ => rfl) fx_no) (fx_cnd (fun _ _ _ _ _ _ _ _ => rfl) fx_no)))) (fx_cnd (fx_cnd (fx_cnd (fun _ _ _ _ _ _ _ _ => rfl) fx_no) (fx_cnd (fun _ _ _ _ _ _ _ _ => rfl) fx_no)) (fx_cnd (fx_cnd (fun _ _ _ _ _ _ _ _ => rfl) fx_no) (fx_cnd (fx_cnd (fun _ _ _ _ _ _ _ _ => rfl) fx_no) (fx_cnd (fun _ _ _ _ _ _ _ _ => rfl) fx_no))))
theorem fk_69_2 (X : ez_X) (pc : Nat) : fx_ok X (ft_69_2 X pc) (ez_t69_2 pc) := by
  delta ft_69_2 ez_t69_2
  exact fx_cnd (fk_69_0 X pc) (fk_69_1 X pc)
theorem fk_69_3 (X : ez_X) (pc : Nat) : fx_ok X (ft_69_3 X pc) (ez_t69_3 pc) := by
  delta ft_69_3 ez_t69_3
  exact fx_cnd (fx_cnd (fx_cnd (fx_cnd (fun _ _ _ _ _ _ _ _ => rfl) fx_no) (fx_cnd (fun _ _ _ _ _ _ _ _ => rfl) fx_no)) (fx_cnd (fx_cnd (fun _ _ _ _ _ _ _ _ => rfl) fx_no) (fx_cnd (fx_cnd (fun _ _ _ _ _ _ _ _ => rfl) fx_no) (fx_cnd (fun _ _ _ _ _ _ _ _ => rfl) fx_no)))) (fx_cnd (fx_cnd (fx_cnd (fun _ _ _ _ _ _ _ _ => rfl) fx_no) (fx_cnd (fun _ _ _ _ _ _ _ _ => rfl) fx_no)) (fx_cnd (fx_cnd (fun _ _ _ _ _ _ _ _ => rfl) fx_no) (fx_cnd (fx_cnd (fun _ _ _ _ _ _ _ _ => rfl) fx_no) (fx_cnd (fun _ _ _ _ _ _ _ _ => rfl) fx_no))))
theorem fk_69_4 (X : ez_X) (pc : Nat) : fx_ok X (ft_69_4 X pc) (ez_t69_4 pc) := by
  delta ft_69_4 ez_t69_4
  exact fx_cnd (fx_cnd (fx_cnd (fx_cnd (fun _ _ _ _ _ _ _ _ => rfl) fx_no) (fx_cnd (fun _ _ _ _ _ _ _ _ => rfl) fx_no)) (fx_cnd (fx_cnd (fun _ _ _ _ _ _ _ _ => rfl) fx_no) (fx_cnd (fx_cnd (fun _ _ _ _ _ _ _ _ => rfl) fx_no) (fx_cnd (fun _ _ _ _ _ _ _ _ => rfl) fx_no)))) (fx_cnd (fx_cnd (fx_cnd (fun _ _ _ _ _ _ _ _ => rfl) fx_no) (fx_cnd (fun _ _ _ _ _ _ _ _ => rfl) fx_no)) (fx_cnd (fx_cnd (fun _ _ _ _ _ _ _ _ => rfl) fx_no) (fx_cnd (fx_cnd (fun _ _ _ _ _ _ _ _ => rfl) fx_no) (fx_cnd (fun _ _ _ _ _ _ _ _ => rfl) fx_no))))
theorem fk_69_5 (X : ez_X) (pc : Nat) : fx_ok X (ft_69_5 X pc) (ez_t69_5 pc) := by
  delta ft_69_5 ez_t69_5
  exact fx_cnd (fk_69_3 X pc) (fk_69_4 X pc)
theorem fk_69_6 (X : ez_X) (pc : Nat) : fx_ok X (ft_69_6 X pc) (ez_t69_6 pc) := by
  delta ft_69_6 ez_t69_6
  exact fx_cnd (fk_69_2 X pc) (fk_69_5 X pc)
theorem fk_69_7 (X : ez_X) (pc : Nat) : fx_ok X (ft_69_7 X pc) (ez_t69_7 pc) := by
  delta ft_69_7 ez_t69_7
  exact fx_cnd (fx_cnd (fx_cnd (fx_cnd (fun _ _ _ _ _ _ _ _ => rfl) fx_no) (fx_cnd (fun _ _ _ _ _ _ _ _ => rfl) fx_no)) (fx_cnd (fx_cnd (fun _ _ _ _ _ _ _ _ => rfl) fx_no) (fx_cnd (fx_cnd (fun _ _ _ _ _ _ _ _ => rfl) fx_no) (fx_cnd (fun _ _ _ _ _ _ _ _ => rfl) fx_no)))) (fx_cnd (fx_cnd (fx_cnd (fun _ _ _ _ _ _ _ _ => rfl) fx_no) (fx_cnd (fun _ _ _ _ _ _ _ _ => rfl) fx_no)) (fx_cnd (fx_cnd (fun _ _ _ _ _ _ _ _ => rfl) fx_no) (fx_cnd (fx_cnd (fun _ _ _ _ _ _ _ _ => rfl) fx_no) (fx_cnd (fun _ _ _ _ _ _ _ _ => rfl) fx_no))))
theorem fk_69_8 (X : ez_X) (pc : Nat) : fx_ok X (ft_69_8 X pc) (ez_t69_8 pc) := by
  delta ft_69_8 ez_t69_8
  exact fx_cnd (fx_cnd (fx_cnd (fx_cnd (fun _ _ _ _ _ _ _ _ => rfl) fx_no) (fx_cnd (fun _ _ _ _ _ _ _ _ => rfl) fx_no)) (fx_cnd (fx_cnd (fun _ _ _ _ _ _ _ _ => rfl) fx_no) (fx_cnd (fx_cnd (fun _ _ _ _ _ _ _ _ => rfl) fx_no) (fx_cnd (fun _ _ _ _ _ _ _ _ => rfl) fx_no)))) (fx_cnd (fx_cnd (fx_cnd (fun _ _ _ _ _ _ _ _ => rfl) fx_no) (fx_cnd (fun _ _ _ _ _ _ _ _ => rfl) fx_no)) (fx_cnd (fx_cnd (fun _ _ _ _ _ _ _ _ => rfl) fx_no) (fx_cnd (fx_cnd (fun _ _ _ _ _ _ _ _ => rfl) fx_no) (fx_cnd (fun _ _ _ _ _ _ _ _ => rfl) fx_no))))
theorem fk_69_9 (X : ez_X) (pc : Nat) : fx_ok X (ft_69_9 X pc) (ez_t69_9 pc) := by
  delta ft_69_9 ez_t69_9
  exact fx_cnd (fk_69_7 X pc) (fk_69_8 X pc)
theorem fk_69_10 (X : ez_X) (pc : Nat) : fx_ok X (ft_69_10 X pc) (ez_t69_10 pc) := by
  delta ft_69_10 ez_t69_10
  exact fx_cnd (fx_cnd (fx_cnd (fx_cnd (fun _ _ _ _ _ _ _ _ => rfl) fx_no) (fx_cnd (fun _ _ _ _ _ _ _ _ => rfl) fx_no)) (fx_cnd (fx_cnd (fun _ _ _ _ _ _ _ _ => rfl) fx_no) (fx_cnd (fx_cnd (fun _ _ _ _ _ _ _ _ => rfl) fx_no) (fx_cnd (fun _ _ _ _ _ _ _ _ => rfl) fx_no)))) (fx_cnd (fx_cnd (fx_cnd (fun _ _ _ _ _ _ _ _ => rfl) fx_no) (fx_cnd (fun _ _ _ _ _ _ _ _ => rfl) fx_no)) (fx_cnd (fx_cnd (fun _ _ _ _ _ _ _ _ => rfl) fx_no) (fx_cnd (fx_cnd (fun _ _ _ _ _ _ _ _ => rfl) fx_no) (fx_cnd (fun _ _ _ _ _ _ _ _ => rfl) fx_no))))
theorem fk_69_11 (X : ez_X) (pc : Nat) : fx_ok X (ft_69_11 X pc) (ez_t69_11 pc) := by
  delta ft_69_11 ez_t69_11
  exact fx_cnd (fx_cnd (fx_cnd (fx_cnd (fun _ _ _ _ _ _ _ _ => rfl) fx_no) (fx_cnd (fun _ _ _ _ _ _ _ _ => rfl) fx_no)) (fx_cnd (fx_cnd (fun _ _ _ _ _ _ _ _ => rfl) fx_no) (fx_cnd (fx_cnd (fun _ _ _ _ _ _ _ _ => rfl) fx_no) (fx_cnd (fun _ _ _ _ _ _ _ _ => rfl) fx_no)))) (fx_cnd (fx_cnd (fx_cnd (fun _ _ _ _ _ _ _ _ => rfl) fx_no) (fx_cnd (fun _ _ _ _ _ _ _ _ => rfl) fx_no)) (fx_cnd (fx_cnd (fun _ _ _ _ _ _ _ _ => rfl) fx_no) (fx_cnd (fx_cnd (fun _ _ _ _ _ _ _ _ => rfl) fx_no) (fx_cnd (fun _ _ _ _ _ _ _ _ => rfl) fx_no))))
theorem fk_69_12 (X : ez_X) (pc : Nat) : fx_ok X (ft_69_12 X pc) (ez_t69_12 pc) := by
  delta ft_69_12 ez_t69_12
  exact fx_cnd (fk_69_10 X pc) (fk_69_11 X pc)
theorem fk_69_13 (X : ez_X) (pc : Nat) : fx_ok X (ft_69_13 X pc) (ez_t69_13 pc) := by
  delta ft_69_13 ez_t69_13
  exact fx_cnd (fk_69_9 X pc) (fk_69_12 X pc)
theorem fk_69 (X : ez_X) (pc : Nat) : fx_ok X (ft_69 X pc) (ez_t69 pc) := by
  delta ft_69 ez_t69
  exact fx_cnd (fk_69_6 X pc) (fk_69_13 X pc)
theorem fk_70_0 (X : ez_X) (pc : Nat) : fx_ok X (ft_70_0 X pc) (ez_t70_0 pc) := by
  delta ft_70_0 ez_t70_0
  exact fx_cnd (fx_cnd (fx_cnd (fx_cnd (fun _ _ _ _ _ _ _ _ => rfl) fx_no) (fx_cnd (fun _ _ _ _ _ _ _ _ => rfl) fx_no)) (fx_cnd (fx_cnd (fun _ _ _ _ _ _ _ _ => rfl) fx_no) (fx_cnd (fun _ _ _ _ _ _ _ _ => rfl) fx_no))) (fx_cnd (fx_cnd (fx_cnd (fun _ _ _ _ _ _ _ _ => rfl) fx_no) (fx_cnd (fun _ _ _ _ _ _ _ _ => rfl) fx_no)) (fx_cnd (fx_cnd (fun _ _ _ _ _ _ _ _ => rfl) fx_no) (fx_cnd (fun _ _ _ _ _ _ _ _ => rfl) fx_no)))
theorem fk_70_1 (X : ez_X) (pc : Nat) : fx_ok X (ft_70_1 X pc) (ez_t70_1 pc) := by
  delta ft_70_1 ez_t70_1
  exact fx_cnd (fx_cnd (fx_cnd (fx_cnd (fun _ _ _ _ _ _ _ _ => rfl) fx_no) (fx_cnd (fun _ _ _ _ _ _ _ _ => rfl) fx_no)) (fx_cnd (fx_cnd (fun _ _ _ _ _ _ _ _ => rfl) fx_no) (fx_cnd (fun _ _ _ _ _ _ _ _ => rfl) fx_no))) (fx_cnd (fx_cnd (fx_cnd (fun _ _ _ _ _ _ _ _ => rfl) fx_no) (fx_cnd (fun _ _ _ _ _ _ _ _ => rfl) fx_no)) (fx_cnd (fx_cnd (fun _ _ _ _ _ _ _ _ => rfl) fx_no) (fx_cnd (fun _ _ _ _ _ _ _ _ => rfl) fx_no)))
theorem fk_70_2 (X : ez_X) (pc : Nat) : fx_ok X (ft_70_2 X pc) (ez_t70_2 pc) := by
  delta ft_70_2 ez_t70_2
  exact fx_cnd (fk_70_0 X pc) (fk_70_1 X pc)
theorem fk_70_3 (X : ez_X) (pc : Nat) : fx_ok X (ft_70_3 X pc) (ez_t70_3 pc) := by
  delta ft_70_3 ez_t70_3
  exact fx_cnd (fx_cnd (fx_cnd (fx_cnd (fun _ _ _ _ _ _ _ _ => rfl) fx_no) (fx_cnd (fun _ _ _ _ _ _ _ _ => rfl) fx_no)) (fx_cnd (fx_cnd (fun _ _ _ _ _ _ _ _ => rfl) fx_no) (fx_cnd (fun _ _ _ _ _ _ _ _ => rfl) fx_no))) (fx_cnd (fx_cnd (fx_cnd (fun _ _ _ _ _ _ _ _ => rfl) fx_no) (fx_cnd (fun _ _ _ _ _ _ _ _ => rfl) fx_no)) (fx_cnd (fx_cnd (fun _ _ _ _ _ _ _ _ => rfl) fx_no) (fx_cnd (fun _ _ _ _ _ _ _ _ => rfl) fx_no)))
theorem fk_70_4 (X : ez_X) (pc : Nat) : fx_ok X (ft_70_4 X pc) (ez_t70_4 pc) := by
  delta ft_70_4 ez_t70_4
  exact fx_cnd (fx_cnd (fx_cnd (fx_cnd (fun _ _ _ _ _ _ _ _ => rfl) fx_no) (fx_cnd (fun _ _ _ _ _ _ _ _ => rfl) fx_no)) (fx_cnd (fx_cnd (fun _ _ _ _ _ _ _ _ => rfl) fx_no) (fx_cnd (fun _ _ _ _ _ _ _ _ => rfl) fx_no))) (fx_cnd (fx_cnd (fx_cnd (fun _ _ _ _ _ _ _ _ => rfl) fx_no) (fx_cnd (fun _ _ _ _ _ _ _ _ => rfl) fx_no)) (fx_cnd (fx_cnd (fun _ _ _ _ _ _ _ _ => rfl) fx_no) (fx_cnd (fun _ _ _ _ _ _ _ _ => rfl) fx_no)))
theorem fk_70_5 (X : ez_X) (pc : Nat) : fx_ok X (ft_70_5 X pc) (ez_t70_5 pc) := by
  delta ft_70_5 ez_t70_5
  exact fx_cnd (fk_70_3 X pc) (fk_70_4 X pc)
theorem fk_70_6 (X : ez_X) (pc : Nat) : fx_ok X (ft_70_6 X pc) (ez_t70_6 pc) := by
  delta ft_70_6 ez_t70_6
  exact fx_cnd (fk_70_2 X pc) (fk_70_5 X pc)
theorem fk_70_7 (X : ez_X) (pc : Nat) : fx_ok X (ft_70_7 X pc) (ez_t70_7 pc) := by
  delta ft_70_7 ez_t70_7
  exact fx_cnd (fx_cnd (fx_cnd (fx_cnd (fun _ _ _ _ _ _ _ _ => rfl) fx_no) (fx_cnd (fun _ _ _ _ _ _ _ _ => rfl) fx_no)) (fx_cnd (fx_cnd (fun _ _ _ _ _ _ _ _ => rfl) fx_no) (fx_cnd (fun _ _ _ _ _ _ _ _ => rfl) fx_no))) (fx_cnd (fx_cnd (fx_cnd (fun _ _ _ _ _ _ _ _ => rfl) fx_no) (fx_cnd (fun _ _ _ _ _ _ _ _ => rfl) fx_no)) (fx_cnd (fx_cnd (fun _ _ _ _ _ _ _ _ => rfl) fx_no) (fx_cnd (fun _ _ _ _ _ _ _ _ => rfl) fx_no)))
theorem fk_70_8 (X : ez_X) (pc : Nat) : fx_ok X (ft_70_8 X pc) (ez_t70_8 pc) := by
  delta ft_70_8 ez_t70_8
  exact fx_cnd (fx_cnd (fx_cnd (fx_cnd (fun _ _ _ _ _ _ _ _ => rfl) fx_no) (fx_cnd (fun _ _ _ _ _ _ _ _ => rfl) fx_no)) (fx_cnd (fx_cnd (fun _ _ _ _ _ _ _ _ => rfl) fx_no) (fx_cnd (fun _ _ _ _ _ _ _ _ => rfl) fx_no))) (fx_cnd (fx_cnd (fx_cnd (fun _ _ _ _ _ _ _ _ => rfl) fx_no) (fx_cnd (fun _ _ _ _ _ _ _ _ => rfl) fx_no)) (fx_cnd (fx_cnd (fun _ _ _ _ _ _ _ _ => rfl) fx_no) (fx_cnd (fun _ _ _ _ _ _ _ _ => rfl) fx_no)))
theorem fk_70_9 (X : ez_X) (pc : Nat) : fx_ok X (ft_70_9 X pc) (ez_t70_9 pc) := by
  delta ft_70_9 ez_t70_9
  exact fx_cnd (fk_70_7 X pc) (fk_70_8 X pc)
theorem fk_70_10 (X : ez_X) (pc : Nat) : fx_ok X (ft_70_10 X pc) (ez_t70_10 pc) := by
  delta ft_70_10 ez_t70_10
  exact fx_cnd (fx_cnd (fx_cnd (fx_cnd (fun _ _ _ _ _ _ _ _ => rfl) fx_no) (fx_cnd (fun _ _ _ _ _ _ _ _ => rfl) fx_no)) (fx_cnd (fx_cnd (fun _ _ _ _ _ _ _ _ => rfl) fx_no) (fx_cnd (fun _ _ _ _ _ _ _ _ => rfl) fx_no))) (fx_cnd (fx_cnd (fx_cnd (fun _ _ _ _ _ _ _ _ => rfl) fx_no) (fx_cnd (fun _ _ _ _ _ _ _ _ => rfl) fx_no)) (fx_cnd (fx_cnd (fun _ _ _ _ _ _ _ _ => rfl) fx_no) (fx_cnd (fun _ _ _ _ _ _ _ _ => rfl) fx_no)))
theorem fk_70_11 (X : ez_X) (pc : Nat) : fx_ok X (ft_70_11 X pc) (ez_t70_11 pc) := by
  delta ft_70_11 ez_t70_11
  exact fx_cnd (fx_cnd (fx_cnd (fx_cnd (fun _ _ _ _ _ _ _ _ => rfl) fx_no) (fx_cnd (fun _ _ _ _ _ _ _ _ => rfl) fx_no)) (fx_cnd (fx_cnd (fun _ _ _ _ _ _ _ _ => rfl) fx_no) (fx_cnd (fun _ _ _ _ _ _ _ _ => rfl) fx_no))) (fx_cnd (fx_cnd (fx_cnd (fun _ _ _ _ _ _ _ _ => rfl) fx_no) (fx_cnd (fun _ _ _ _ _ _ _ _ => rfl) fx_no)) (fx_cnd (fx_cnd (fun _ _ _ _ _ _ _ _ => rfl) fx_no) (fx_cnd (fx_cnd (fun _ _ _ _ _ _ _ _ => rfl) fx_no) (fx_cnd (fun _ _ _ _ _ _ _ _ => rfl) fx_no))))
theorem fk_70_12 (X : ez_X) (pc : Nat) : fx_ok X (ft_70_12 X pc) (ez_t70_12 pc) := by
  delta ft_70_12 ez_t70_12
  exact fx_cnd (fk_70_10 X pc) (fk_70_11 X pc)
theorem fk_70_13 (X : ez_X) (pc : Nat) : fx_ok X (ft_70_13 X pc) (ez_t70_13 pc) := by
  delta ft_70_13 ez_t70_13
  exact fx_cnd (fk_70_9 X pc) (fk_70_12 X pc)
theorem fk_70 (X : ez_X) (pc : Nat) : fx_ok X (ft_70 X pc) (ez_t70 pc) := by
  delta ft_70 ez_t70
  exact fx_cnd (fk_70_6 X pc) (fk_70_13 X pc)
theorem fk_71_0 (X : ez_X) (pc : Nat) : fx_ok X (ft_71_0 X pc) (ez_t71_0 pc) := by
  delta ft_71_0 ez_t71_0
  exact fx_cnd (fx_cnd (fx_cnd (fx_cnd (fun _ _ _ _ _ _ _ _ => rfl) fx_no) (fx_cnd (fun _ _ _ _ _ _ _ _ => rfl) fx_no)) (fx_cnd (fx_cnd (fun _ _ _ _ _ _ _ _ => rfl) fx_no) (fx_cnd (fun _ _ _ _ _ _ _ _ => rfl) fx_no))) (fx_cnd (fx_cnd (fx_cnd (fun _ _ _ _ _ _ _ _ => rfl) fx_no) (fx_cnd (fun _ _ _ _ _ _ _ _ => rfl) fx_no)) (fx_cnd (fx_cnd (fun _ _ _ _ _ _ _ _ => rfl) fx_no) (fx_cnd (fx_cnd (fun _ _ _ _ _ _ _ _ => rfl) fx_no) (fx_cnd (fun _ _ _ _ _ _ _ _ => rfl) fx_no))))
theorem fk_71_1 (X : ez_X) (pc : Nat) : fx_ok X (ft_71_1 X pc) (ez_t71_1 pc) := by
  delta ft_71_1 ez_t71_1
  exact fx_cnd (fx_cnd (fx_cnd (fx_cnd (fun _ _ _ _ _ _ _ _ => rfl) fx_no) (fx_cnd (fun _ _ _ _ _ _ _ _ => rfl) fx_no)) (fx_cnd (fx_cnd (fun _ _ _ _ _ _ _ _ => rfl) fx_no) (fx_cnd (fx_cnd (fun _ _ _ _ _ _ _ _ => rfl) fx_no) (fx_cnd (fun _ _ _ _ _ _ _ _ => rfl) fx_no)))) (fx_cnd (fx_cnd (fx_cnd (fun _ _ _ _ _ _ _ _ => rfl) fx_no) (fx_cnd (fun _ _ _ _ _ _ _ _ => rfl) fx_no)) (fx_cnd (fx_cnd (fun _ _ _ _ _ _ _ _ => rfl) fx_no) (fx_cnd (fx_cnd (fun _ _ _ _ _ _ _ _ => rfl) fx_no) (fx_cnd (fun _ _ _ _ _ _ _ _ => rfl) fx_no))))
theorem fk_71 (X : ez_X) (pc : Nat) : fx_ok X (ft_71 X pc) (ez_t71 pc) := by
  delta ft_71 ez_t71
  exact fx_cnd (fk_71_0 X pc) (fk_71_1 X pc)
theorem fk_72_0 (X : ez_X) (pc : Nat) : fx_ok X (ft_72_0 X pc) (ez_t72_0 pc) := by
  delta ft_72_0 ez_t72_0
  exact fx_cnd (fx_cnd (fx_cnd (fun _ _ _ _ _ _ _ _ => rfl) fx_no) (fx_cnd (fx_cnd (fun _ _ _ _ _ _ _ _ => rfl) fx_no) (fx_cnd (fun _ _ _ _ _ _ _ _ => rfl) fx_no))) (fx_cnd (fx_cnd (fun _ _ _ _ _ _ _ _ => rfl) fx_no) (fx_cnd (fx_cnd (fun _ _ _ _ _ _ _ _ => rfl) fx_no) (fx_cnd (fun _ _ _ _ _ _ _ _ => rfl) fx_no)))
theorem fk_72_1 (X : ez_X) (pc : Nat) : fx_ok X (ft_72_1 X pc) (ez_t72_1 pc) := by
  delta ft_72_1 ez_t72_1
  exact fx_cnd (fx_cnd (fx_cnd (fun _ _ _ _ _ _ _ _ => rfl) fx_no) (fx_cnd (fx_cnd (fun _ _ _ _ _ _ _ _ => rfl) fx_no) (fx_cnd (fun _ _ _ _ _ _ _ _ => rfl) fx_no))) (fx_cnd (fx_cnd (fx_cnd (fun _ _ _ _ _ _ _ _ => rfl) fx_no) (fx_cnd (fun _ _ _ _ _ _ _ _ => rfl) fx_no)) (fx_cnd (fx_cnd (fun _ _ _ _ _ _ _ _ => rfl) fx_no) (fx_cnd (fun _ _ _ _ _ _ _ _ => rfl) fx_no)))
theorem fk_72 (X : ez_X) (pc : Nat) : fx_ok X (ft_72 X pc) (ez_t72 pc) := by
  delta ft_72 ez_t72
  exact fx_cnd (fk_72_0 X pc) (fk_72_1 X pc)
theorem fk_73 (X : ez_X) (pc : Nat) : fx_ok X (ft_73 X pc) (ez_t73 pc) := by
  delta ft_73 ez_t73
  exact fx_cnd (fx_cnd (fx_cnd (fx_cnd (fun _ _ _ _ _ _ _ _ => rfl) fx_no) (fx_cnd (fun _ _ _ _ _ _ _ _ => rfl) fx_no)) (fx_cnd (fx_cnd (fun _ _ _ _ _ _ _ _ => rfl) fx_no) (fx_cnd (fun _ _ _ _ _ _ _ _ => rfl) fx_no))) (fx_cnd (fx_cnd (fx_cnd (fun _ _ _ _ _ _ _ _ => rfl) fx_no) (fx_cnd (fun _ _ _ _ _ _ _ _ => rfl) fx_no)) (fx_cnd (fx_cnd (fun _ _ _ _ _ _ _ _ => rfl) fx_no) (fx_cnd (fun _ _ _ _ _ _ _ _ => rfl) fx_no)))
theorem fk_74_0 (X : ez_X) (pc : Nat) : fx_ok X (ft_74_0 X pc) (ez_t74_0 pc) := by
  delta ft_74_0 ez_t74_0
  exact fx_cnd (fx_cnd (fx_cnd (fx_cnd (fun _ _ _ _ _ _ _ _ => rfl) fx_no) (fx_cnd (fun _ _ _ _ _ _ _ _ => rfl) fx_no)) (fx_cnd (fx_cnd (fun _ _ _ _ _ _ _ _ => rfl) fx_no) (fx_cnd (fx_cnd (fun _ _ _ _ _ _ _ _ => rfl) fx_no) (fx_cnd (fun _ _ _ _ _ _ _ _ => rfl) fx_no)))) (fx_cnd (fx_cnd (fx_cnd (fun _ _ _ _ _ _ _ _ => rfl) fx_no) (fx_cnd (fx_cnd (fun _ _ _ _ _ _ _ _ => rfl) fx_no) (fx_cnd (fun _ _ _ _ _ _ _ _ => rfl) fx_no))) (fx_cnd (fx_cnd (fun _ _ _ _ _ _ _ _ => rfl) fx_no) (fx_cnd (fx_cnd (fun _ _ _ _ _ _ _ _ => rfl) fx_no) (fx_cnd (fun _ _ _ _ _ _ _ _ => rfl) fx_no))))
theorem fk_74_1 (X : ez_X) (pc : Nat) : fx_ok X (ft_74_1 X pc) (ez_t74_1 pc) := by
  delta ft_74_1 ez_t74_1
  exact fx_cnd (fx_cnd (fx_cnd (fx_cnd (fun _ _ _ _ _ _ _ _ => rfl) fx_no) (fx_cnd (fx_cnd (fun _ _ _ _ _ _ _ _ => rfl) fx_no) (fx_cnd (fun _ _ _ _ _ _ _ _ => rfl) fx_no))) (fx_cnd (fx_cnd (fun _ _ _ _ _ _ _ _ => rfl) fx_no) (fx_cnd (fx_cnd (fun _ _ _ _ _ _ _ _ => rfl) fx_no) (fx_cnd (fun _ _ _ _ _ _ _ _ => rfl) fx_no)))) (fx_cnd (fx_cnd (fx_cnd (fun _ _ _ _ _ _ _ _ => rfl) fx_no) (fx_cnd (fx_cnd (fun _ _ _ _ _ _ _ _ => rfl) fx_no) (fx_cnd (fun _ _ _ _ _ _ _ _ => rfl) fx_no))) (fx_cnd (fx_cnd (fun _ _ _ _ _ _ _ _ => rfl) fx_no) (fx_cnd (fx_cnd (fun _ _ _ _ _ _ _ _ => rfl) fx_no) (fx_cnd (fun _ _ _ _ _ _ _ _ => rfl) fx_no))))
theorem fk_74_2 (X : ez_X) (pc : Nat) : fx_ok X (ft_74_2 X pc) (ez_t74_2 pc) := by
  delta ft_74_2 ez_t74_2
  exact fx_cnd (fk_74_0 X pc) (fk_74_1 X pc)
theorem fk_74_3 (X : ez_X) (pc : Nat) : fx_ok X (ft_74_3 X pc) (ez_t74_3 pc) := by
  delta ft_74_3 ez_t74_3
  exact fx_cnd (fx_cnd (fx_cnd (fx_cnd (fun _ _ _ _ _ _ _ _ => rfl) fx_no) (fx_cnd (fx_cnd (fun _ _ _ _ _ _ _ _ => rfl) fx_no) (fx_cnd (fun _ _ _ _ _ _ _ _ => rfl) fx_no))) (fx_cnd (fx_cnd (fun _ _ _ _ _ _ _ _ => rfl) fx_no) (fx_cnd (fx_cnd (fun _ _ _ _ _ _ _ _ => rfl) fx_no) (fx_cnd (fun _ _ _ _ _ _ _ _ => rfl) fx_no)))) (fx_cnd (fx_cnd (fx_cnd (fun _ _ _ _ _ _ _ _ => rfl) fx_no) (fx_cnd (fx_cnd (fun _ _ _ _ _ _ _ _ => rfl) fx_no) (fx_cnd (fun _ _ _ _ _ _ _ _ => rfl) fx_no))) (fx_cnd (fx_cnd (fun _ _ _ _ _ _ _ _ => rfl) fx_no) (fx_cnd (fx_cnd (fun _ _ _ _ _ _ _ _ => rfl) fx_no) (fx_cnd (fun _ _ _ _ _ _ _ _ => rfl) fx_no))))
theorem fk_74_4 (X : ez_X) (pc : Nat) : fx_ok X (ft_74_4 X pc) (ez_t74_4 pc) := by
  delta ft_74_4 ez_t74_4
  exact fx_cnd (fx_cnd (fx_cnd (fx_cnd (fun _ _ _ _ _ _ _ _ => rfl) fx_no) (fx_cnd (fx_cnd (fun _ _ _ _ _ _ _ _ => rfl) fx_no) (fx_cnd (fun _ _ _ _ _ _ _ _ => rfl) fx_no))) (fx_cnd (fx_cnd (fun _ _ _ _ _ _ _ _ => rfl) fx_no) (fx_cnd (fx_cnd (fun _ _ _ _ _ _ _ _ => rfl) fx_no) (fx_cnd (fun _ _ _ _ _ _ _ _ => rfl) fx_no)))) (fx_cnd (fx_cnd (fx_cnd (fun _ _ _ _ _ _ _ _ => rfl) fx_no) (fx_cnd (fx_cnd (fun _ _ _ _ _ _ _ _ => rfl) fx_no) (fx_cnd (fun _ _ _ _ _ _ _ _ => rfl) fx_no))) (fx_cnd (fx_cnd (fun _ _ _ _ _ _ _ _ => rfl) fx_no) (fx_cnd (fx_cnd (fun _ _ _ _ _ _ _ _ => rfl) fx_no) (fx_cnd (fun _ _ _ _ _ _ _ _ => rfl) fx_no))))
theorem fk_74_5 (X : ez_X) (pc : Nat) : fx_ok X (ft_74_5 X pc) (ez_t74_5 pc) := by
  delta ft_74_5 ez_t74_5
  exact fx_cnd (fk_74_3 X pc) (fk_74_4 X pc)
theorem fk_74 (X : ez_X) (pc : Nat) : fx_ok X (ft_74 X pc) (ez_t74 pc) := by
  delta ft_74 ez_t74
  exact fx_cnd (fk_74_2 X pc) (fk_74_5 X pc)
theorem fk_75_0 (X : ez_X) (pc : Nat) : fx_ok X (ft_75_0 X pc) (ez_t75_0 pc) := by
  delta ft_75_0 ez_t75_0
  exact fx_cnd (fx_cnd (fx_cnd (fun _ _ _ _ _ _ _ _ => rfl) fx_no) (fx_cnd (fx_cnd (fun _ _ _ _ _ _ _ _ => rfl) fx_no) (fx_cnd (fun _ _ _ _ _ _ _ _ => rfl) fx_no))) (fx_cnd (fx_cnd (fx_cnd (fun _ _ _ _ _ _ _ _ => rfl) fx_no) (fx_cnd (fun _ _ _ _ _ _ _ _ => rfl) fx_no)) (fx_cnd (fx_cnd (fun _ _ _ _ _ _ _ _ => rfl) fx_no) (fx_cnd (fun _ _ _ _ _ _ _ _ => rfl) fx_no)))
theorem fk_75_1 (X : ez_X) (pc : Nat) : fx_ok X (ft_75_1 X pc) (ez_t75_1 pc) := by
  delta ft_75_1 ez_t75_1
  exact fx_cnd (fx_cnd (fx_cnd (fun _ _ _ _ _ _ _ _ => rfl) fx_no) (fx_cnd (fx_cnd (fun _ _ _ _ _ _ _ _ => rfl) fx_no) (fx_cnd (fun _ _ _ _ _ _ _ _ => rfl) fx_no))) (fx_cnd (fx_cnd (fx_cnd (fun _ _ _ _ _ _ _ _ => rfl) fx_no) (fx_cnd (fun _ _ _ _ _ _ _ _ => rfl) fx_no)) (fx_cnd (fx_cnd (fun _ _ _ _ _ _ _ _ => rfl) fx_no) (fx_cnd (fun _ _ _ _ _ _ _ _ => rfl) fx_no)))
theorem fk_75_2 (X : ez_X) (pc : Nat) : fx_ok X (ft_75_2 X pc) (ez_t75_2 pc) := by
  delta ft_75_2 ez_t75_2
  exact fx_cnd (fk_75_0 X pc) (fk_75_1 X pc)
theorem fk_75_3 (X : ez_X) (pc : Nat) : fx_ok X (ft_75_3 X pc) (ez_t75_3 pc) := by
  delta ft_75_3 ez_t75_3
  exact fx_cnd (fx_cnd (fx_cnd (fun _ _ _ _ _ _ _ _ => rfl) fx_no) (fx_cnd (fx_cnd (fun _ _ _ _ _ _ _ _ => rfl) fx_no) (fx_cnd (fun _ _ _ _ _ _ _ _ => rfl) fx_no))) (fx_cnd (fx_cnd (fx_cnd (fun _ _ _ _ _ _ _ _ => rfl) fx_no) (fx_cnd (fun _ _ _ _ _ _ _ _ => rfl) fx_no)) (fx_cnd (fx_cnd (fun _ _ _ _ _ _ _ _ => rfl) fx_no) (fx_cnd (fun _ _ _ _ _ _ _ _ => rfl) fx_no)))
theorem fk_75_4 (X : ez_X) (pc : Nat) : fx_ok X (ft_75_4 X pc) (ez_t75_4 pc) := by
  delta ft_75_4 ez_t75_4
  exact fx_cnd (fx_cnd (fx_cnd (fx_cnd (fun _ _ _ _ _ _ _ _ => rfl) fx_no) (fx_cnd (fun _ _ _ _ _ _ _ _ => rfl) fx_no)) (fx_cnd (fx_cnd (fun _ _ _ _ _ _ _ _ => rfl) fx_no) (fx_cnd (fun _ _ _ _ _ _ _ _ => rfl) fx_no))) (fx_cnd (fx_cnd (fx_cnd (fun _ _ _ _ _ _ _ _ => rfl) fx_no) (fx_cnd (fun _ _ _ _ _ _ _ _ => rfl) fx_no)) (fx_cnd (fx_cnd (fun _ _ _ _ _ _ _ _ => rfl) fx_no) (fx_cnd (fun _ _ _ _ _ _ _ _ => rfl) fx_no)))
theorem fk_75_5 (X : ez_X) (pc : Nat) : fx_ok X (ft_75_5 X pc) (ez_t75_5 pc) := by
  delta ft_75_5 ez_t75_5
  exact fx_cnd (fk_75_3 X pc) (fk_75_4 X pc)
theorem fk_75 (X : ez_X) (pc : Nat) : fx_ok X (ft_75 X pc) (ez_t75 pc) := by
  delta ft_75 ez_t75
  exact fx_cnd (fk_75_2 X pc) (fk_75_5 X pc)
theorem fk_76_0 (X : ez_X) (pc : Nat) : fx_ok X (ft_76_0 X pc) (ez_t76_0 pc) := by
  delta ft_76_0 ez_t76_0
  exact fx_cnd (fx_cnd (fx_cnd (fx_cnd (fun _ _ _ _ _ _ _ _ => rfl) fx_no) (fx_cnd (fun _ _ _ _ _ _ _ _ => rfl) fx_no)) (fx_cnd (fx_cnd (fun _ _ _ _ _ _ _ _ => rfl) fx_no) (fx_cnd (fx_cnd (fun _ _ _ _ _ _ _ _ => rfl) fx_no) (fx_cnd (fun _ _ _ _ _ _ _ _ => rfl) fx_no)))) (fx_cnd (fx_cnd (fx_cnd (fun _ _ _ _ _ _ _ _ => rfl) fx_no) (fx_cnd (fx_cnd (fun _ _ _ _ _ _ _ _ => rfl) fx_no) (fx_cnd (fun _ _ _ _ _ _ _ _ => rfl) fx_no))) (fx_cnd (fx_cnd (fun _ _ _ _ _ _ _ _ => rfl) fx_no) (fx_cnd (fx_cnd (fun _ _ _ _ _ _ _ _ => rfl) fx_no) (fx_cnd (fun _ _ _ _ _ _ _ _ => rfl) fx_no))))
theorem fk_76_1 (X : ez_X) (pc : Nat) : fx_ok X (ft_76_1 X pc) (ez_t76_1 pc) := by
  delta ft_76_1 ez_t76_1
  exact fx_cnd (fx_cnd (fx_cnd (fx_cnd (fun _ _ _ _ _ _ _ _ => rfl) fx_no) (fx_cnd (fx_cnd (fun _ _ _ _ _ _ _ _ => rfl) fx_no) (fx_cnd (fun _ _ _ _ _ _ _ _ => rfl) fx_no))) (fx_cnd (fx_cnd (fun _ _ _ _ _ _ _ _ => rfl) fx_no) (fx_cnd (fx_cnd (fun _ _ _ _ _ _ _ _ => rfl) fx_no) (fx_cnd (fun _ _ _ _ _ _ _ _ => rfl) fx_no)))) (fx_cnd (fx_cnd (fx_cnd (fun _ _ _ _ _ _ _ _ => rfl) fx_no) (fx_cnd (fx_cnd (fun _ _ _ _ _ _ _ _ => rfl) fx_no) (fx_cnd (fun _ _ _ _ _ _ _ _ => rfl) fx_no))) (fx_cnd (fx_cnd (fun _ _ _ _ _ _ _ _ => rfl) fx_no) (fx_cnd (fx_cnd (fun _ _ _ _ _ _ _ _ => rfl) fx_no) (fx_cnd (fun _ _ _ _ _ _ _ _ => rfl) fx_no))))
theorem fk_76 (X : ez_X) (pc : Nat) : fx_ok X (ft_76 X pc) (ez_t76 pc) := by
  delta ft_76 ez_t76
  exact fx_cnd (fk_76_0 X pc) (fk_76_1 X pc)
theorem fk_77_0 (X : ez_X) (pc : Nat) : fx_ok X (ft_77_0 X pc) (ez_t77_0 pc) := by
  delta ft_77_0 ez_t77_0
  exact fx_cnd (fx_cnd (fx_cnd (fx_cnd (fun _ _ _ _ _ _ _ _ => rfl) fx_no) (fx_cnd (fun _ _ _ _ _ _ _ _ => rfl) fx_no)) (fx_cnd (fx_cnd (fun _ _ _ _ _ _ _ _ => rfl) fx_no) (fx_cnd (fun _ _ _ _ _ _ _ _ => rfl) fx_no))) (fx_cnd (fx_cnd (fx_cnd (fun _ _ _ _ _ _ _ _ => rfl) fx_no) (fx_cnd (fun _ _ _ _ _ _ _ _ => rfl) fx_no)) (fx_cnd (fx_cnd (fun _ _ _ _ _ _ _ _ => rfl) fx_no) (fx_cnd (fx_cnd (fun _ _ _ _ _ _ _ _ => rfl) fx_no) (fx_cnd (fun _ _ _ _ _ _ _ _ => rfl) fx_no))))
theorem fk_77_1 (X : ez_X) (pc : Nat) : fx_ok X (ft_77_1 X pc) (ez_t77_1 pc) := by
  delta ft_77_1 ez_t77_1
  exact fx_cnd (fx_cnd (fx_cnd (fx_cnd (fun _ _ _ _ _ _ _ _ => rfl) fx_no) (fx_cnd (fun _ _ _ _ _ _ _ _ => rfl) fx_no)) (fx_cnd (fx_cnd (fun _ _ _ _ _ _ _ _ => rfl) fx_no) (fx_cnd (fx_cnd (fun _ _ _ _ _ _ _ _ => rfl) fx_no) (fx_cnd (fun _ _ _ _ _ _ _ _ => rfl) fx_no)))) (fx_cnd (fx_cnd (fx_cnd (fun _ _ _ _ _ _ _ _ => rfl) fx_no) (fx_cnd (fun _ _ _ _ _ _ _ _ => rfl) fx_no)) (fx_cnd (fx_cnd (fun _ _ _ _ _ _ _ _ => rfl) fx_no) (fx_cnd (fx_cnd (fun _ _ _ _ _ _ _ _ => rfl) fx_no) (fx_cnd (fun _ _ _ _ _ _ _ _ => rfl) fx_no))))
theorem fk_77 (X : ez_X) (pc : Nat) : fx_ok X (ft_77 X pc) (ez_t77 pc) := by
  delta ft_77 ez_t77
  exact fx_cnd (fk_77_0 X pc) (fk_77_1 X pc)
theorem fk_78_0 (X : ez_X) (pc : Nat) : fx_ok X (ft_78_0 X pc) (ez_t78_0 pc) := by
  delta ft_78_0 ez_t78_0
  exact fx_cnd (fx_cnd (fx_cnd (fx_cnd (fun _ _ _ _ _ _ _ _ => rfl) fx_no) (fx_cnd (fun _ _ _ _ _ _ _ _ => rfl) fx_no)) (fx_cnd (fx_cnd (fun _ _ _ _ _ _ _ _ => rfl) fx_no) (fx_cnd (fun _ _ _ _ _ _ _ _ => rfl) fx_no))) (fx_cnd (fx_cnd (fx_cnd (fun _ _ _ _ _ _ _ _ => rfl) fx_no) (fx_cnd (fun _ _ _ _ _ _ _ _ => rfl) fx_no)) (fx_cnd (fx_cnd (fun _ _ _ _ _ _ _ _ => rfl) fx_no) (fx_cnd (fx_cnd (fun _ _ _ _ _ _ _ _ => rfl) fx_no) (fx_cnd (fun _ _ _ _ _ _ _ _ => rfl) fx_no))))
theorem fk_78_1 (X : ez_X) (pc : Nat) : fx_ok X (ft_78_1 X pc) (ez_t78_1 pc) := by
  delta ft_78_1 ez_t78_1
  exact fx_cnd (fx_cnd (fx_cnd (fx_cnd (fun _ _ _ _ _ _ _ _ => rfl) fx_no) (fx_cnd (fun _ _ _ _ _ _ _ _ => rfl) fx_no)) (fx_cnd (fx_cnd (fun _ _ _ _ _ _ _ _ => rfl) fx_no) (fx_cnd (fx_cnd (fun _ _ _ _ _ _ _ _ => rfl) fx_no) (fx_cnd (fun _ _ _ _ _ _ _ _ => rfl) fx_no)))) (fx_cnd (fx_cnd (fx_cnd (fun _ _ _ _ _ _ _ _ => rfl) fx_no) (fx_cnd (fun _ _ _ _ _ _ _ _ => rfl) fx_no)) (fx_cnd (fx_cnd (fun _ _ _ _ _ _ _ _ => rfl) fx_no) (fx_cnd (fx_cnd (fun _ _ _ _ _ _ _ _ => rfl) fx_no) (fx_cnd (fun _ _ _ _ _ _ _ _ => rfl) fx_no))))
theorem fk_78 (X : ez_X) (pc : Nat) : fx_ok X (ft_78 X pc) (ez_t78 pc) := by
  delta ft_78 ez_t78
  exact fx_cnd (fk_78_0 X pc) (fk_78_1 X pc)
theorem fk_79_0 (X : ez_X) (pc : Nat) : fx_ok X (ft_79_0 X pc) (ez_t79_0 pc) := by
  delta ft_79_0 ez_t79_0
  exact fx_cnd (fx_cnd (fx_cnd (fx_cnd (fun _ _ _ _ _ _ _ _ => rfl) fx_no) (fx_cnd (fun _ _ _ _ _ _ _ _ => rfl) fx_no)) (fx_cnd (fx_cnd (fun _ _ _ _ _ _ _ _ => rfl) fx_no) (fx_cnd (fx_cnd (fun _ _ _ _ _ _ _ _ => rfl) fx_no) (fx_cnd (fun _ _ _ _ _ _ _ _ => rfl) fx_no)))) (fx_cnd (fx_cnd (fx_cnd (fun _ _ _ _ _ _ _ _ => rfl) fx_no) (fx_cnd (fx_cnd (fun _ _ _ _ _ _ _ _ => rfl) fx_no) (fx_cnd (fun _ _ _ _ _ _ _ _ => rfl) fx_no))) (fx_cnd (fx_cnd (fun _ _ _ _ _ _ _ _ => rfl) fx_no) (fx_cnd (fx_cnd (fun _ _ _ _ _ _ _ _ => rfl) fx_no) (fx_cnd (fun _ _ _ _ _ _ _ _ => rfl) fx_no))))
theorem fk_79_1 (X : ez_X) (pc : Nat) : fx_ok X (ft_79_1 X pc) (ez_t79_1 pc) := by
  delta ft_79_1 ez_t79_1
  exact fx_cnd (fx_cnd (fx_cnd (fx_cnd (fun _ _ _ _ _ _ _ _ => rfl) fx_no) (fx_cnd (fx_cnd (fun _ _ _ _ _ _ _ _ => rfl) fx_no) (fx_cnd (fun _ _ _ _ _ _ _ _ => rfl) fx_no))) (fx_cnd (fx_cnd (fun _ _ _ _ _ _ _ _ => rfl) fx_no) (fx_cnd (fx_cnd (fun _ _ _ _ _ _ _ _ => rfl) fx_no) (fx_cnd (fun _ _ _ _ _ _ _ _ => rfl) fx_no)))) (fx_cnd (fx_cnd (fx_cnd (fun _ _ _ _ _ _ _ _ => rfl) fx_no) (fx_cnd (fx_cnd (fun _ _ _ _ _ _ _ _ => rfl) fx_no) (fx_cnd (fun _ _ _ _ _ _ _ _ => rfl) fx_no))) (fx_cnd (fx_cnd (fun _ _ _ _ _ _ _ _ => rfl) fx_no) (fx_cnd (fx_cnd (fun _ _ _ _ _ _ _ _ => rfl) fx_no) (fx_cnd (fun _ _ _ _ _ _ _ _ => rfl) fx_no))))
theorem fk_79_2 (X : ez_X) (pc : Nat) : fx_ok X (ft_79_2 X pc) (ez_t79_2 pc) := by
  delta ft_79_2 ez_t79_2
  exact fx_cnd (fk_79_0 X pc) (fk_79_1 X pc)
theorem fk_79_3 (X : ez_X) (pc : Nat) : fx_ok X (ft_79_3 X pc) (ez_t79_3 pc) := by
  delta ft_79_3 ez_t79_3
  exact fx_cnd (fx_cnd (fx_cnd (fx_cnd (fun _ _ _ _ _ _ _ _ => rfl) fx_no) (fx_cnd (fun _ _ _ _ _ _ _ _ => rfl) fx_no)) (fx_cnd (fx_cnd (fun _ _ _ _ _ _ _ _ => rfl) fx_no) (fx_cnd (fx_cnd (fun _ _ _ _ _ _ _ _ => rfl) fx_no) (fx_cnd (fun _ _ _ _ _ _ _ _ => rfl) fx_no)))) (fx_cnd (fx_cnd (fx_cnd (fun _ _ _ _ _ _ _ _ => rfl) fx_no) (fx_cnd (fx_cnd (fun _ _ _ _ _ _ _ _ => rfl) fx_no) (fx_cnd (fun _ _ _ _ _ _ _ _ => rfl) fx_no))) (fx_cnd (fx_cnd (fun _ _ _ _ _ _ _ _ => rfl) fx_no) (fx_cnd (fx_cnd (fun _ _ _ _ _ _ _ _ => rfl) fx_no) (fx_cnd (fun _ _ _ _ _ _ _ _ => rfl) fx_no))))
theorem fk_79_4 (X : ez_X) (pc : Nat) : fx_ok X (ft_79_4 X pc) (ez_t79_4 pc) := by
  delta ft_79_4 ez_t79_4
  exact fx_cnd (fx_cnd (fx_cnd (fx_cnd (fun _ _ _ _ _ _ _ _ => rfl) fx_no) (fx_cnd (fx_cnd (fun _ _ _ _ _ _ _ _ => rfl) fx_no) (fx_cnd (fun _ _ _ _ _ _ _ _ => rfl) fx_no))) (fx_cnd (fx_cnd (fun _ _ _ _ _ _ _ _ => rfl) fx_no) (fx_cnd (fx_cnd (fun _ _ _ _ _ _ _ _ => rfl) fx_no) (fx_cnd (fun _ _ _ _ _ _ _ _ => rfl) fx_no)))) (fx_cnd (fx_cnd (fx_cnd (fun _ _ _ _ _ _ _ _ => rfl) fx_no) (fx_cnd (fx_cnd (fun _ _ _ _ _ _ _ _ => rfl) fx_no) (fx_cnd (fun _ _ _ _ _ _ _ _ => rfl) fx_no))) (fx_cnd (fx_cnd (fun _ _ _ _ _ _ _ _ => rfl) fx_no) (fx_cnd (fx_cnd (fun _ _ _ _ _ _ _ _ => rfl) fx_no) (fx_cnd (fun _ _ _ _ _ _ _ _ => rfl) fx_no))))
theorem fk_79_5 (X : ez_X) (pc : Nat) : fx_ok X (ft_79_5 X pc) (ez_t79_5 pc) := by
  delta ft_79_5 ez_t79_5
  exact fx_cnd (fk_79_3 X pc) (fk_79_4 X pc)
theorem fk_79 (X : ez_X) (pc : Nat) : fx_ok X (ft_79 X pc) (ez_t79 pc) := by
  delta ft_79 ez_t79
  exact fx_cnd (fk_79_2 X pc) (fk_79_5 X pc)
theorem fk_80_0 (X : ez_X) (pc : Nat) : fx_ok X (ft_80_0 X pc) (ez_t80_0 pc) := by
  delta ft_80_0 ez_t80_0
  exact fx_cnd (fx_cnd (fx_cnd (fx_cnd (fun _ _ _ _ _ _ _ _ => rfl) fx_no) (fx_cnd (fun _ _ _ _ _ _ _ _ => rfl) fx_no)) (fx_cnd (fx_cnd (fun _ _ _ _ _ _ _ _ => rfl) fx_no) (fx_cnd (fun _ _ _ _ _ _ _ _ => rfl) fx_no))) (fx_cnd (fx_cnd (fx_cnd (fun _ _ _ _ _ _ _ _ => rfl) fx_no) (fx_cnd (fun _ _ _ _ _ _ _ _ => rfl) fx_no)) (fx_cnd (fx_cnd (fun _ _ _ _ _ _ _ _ => rfl) fx_no) (fx_cnd (fun _ _ _ _ _ _ _ _ => rfl) fx_no)))
theorem fk_80_1 (X : ez_X) (pc : Nat) : fx_ok X (ft_80_1 X pc) (ez_t80_1 pc) := by
  delta ft_80_1 ez_t80_1
  exact fx_cnd (fx_cnd (fx_cnd (fx_cnd (fun _ _ _ _ _ _ _ _ => rfl) fx_no) (fx_cnd (fun _ _ _ _ _ _ _ _ => rfl) fx_no)) (fx_cnd (fx_cnd (fun _ _ _ _ _ _ _ _ => rfl) fx_no) (fx_cnd (fun _ _ _ _ _ _ _ _ => rfl) fx_no))) (fx_cnd (fx_cnd (fx_cnd (fun _ _ _ _ _ _ _ _ => rfl) fx_no) (fx_cnd (fun _ _ _ _ _ _ _ _ => rfl) fx_no)) (fx_cnd (fx_cnd (fun _ _ _ _ _ _ _ _ => rfl) fx_no) (fx_cnd (fun _ _ _ _ _ _ _ _ => rfl) fx_no)))
theorem fk_80_2 (X : ez_X) (pc : Nat) : fx_ok X (ft_80_2 X pc) (ez_t80_2 pc) := by
  delta ft_80_2 ez_t80_2
  exact fx_cnd (fk_80_0 X pc) (fk_80_1 X pc)
theorem fk_80_3 (X : ez_X) (pc : Nat) : fx_ok X (ft_80_3 X pc) (ez_t80_3 pc) := by
  delta ft_80_3 ez_t80_3
  exact fx_cnd (fx_cnd (fx_cnd (fx_cnd (fun _ _ _ _ _ _ _ _ => rfl) fx_no) (fx_cnd (fun _ _ _ _ _ _ _ _ => rfl) fx_no)) (fx_cnd (fx_cnd (fun _ _ _ _ _ _ _ _ => rfl) fx_no) (fx_cnd (fun _ _ _ _ _ _ _ _ => rfl) fx_no))) (fx_cnd (fx_cnd (fx_cnd (fun _ _ _ _ _ _ _ _ => rfl) fx_no) (fx_cnd (fun _ _ _ _ _ _ _ _ => rfl) fx_no)) (fx_cnd (fx_cnd (fun _ _ _ _ _ _ _ _ => rfl) fx_no) (fx_cnd (fun _ _ _ _ _ _ _ _ => rfl) fx_no)))
theorem fk_80_4 (X : ez_X) (pc : Nat) : fx_ok X (ft_80_4 X pc) (ez_t80_4 pc) := by
  delta ft_80_4 ez_t80_4
  exact fx_cnd (fx_cnd (fx_cnd (fx_cnd (fun _ _ _ _ _ _ _ _ => rfl) fx_no) (fx_cnd (fun _ _ _ _ _ _ _ _ => rfl) fx_no)) (fx_cnd (fx_cnd (fun _ _ _ _ _ _ _ _ => rfl) fx_no) (fx_cnd (fun _ _ _ _ _ _ _ _ => rfl) fx_no))) (fx_cnd (fx_cnd (fx_cnd (fun _ _ _ _ _ _ _ _ => rfl) fx_no) (fx_cnd (fun _ _ _ _ _ _ _ _ => rfl) fx_no)) (fx_cnd (fx_cnd (fun _ _ _ _ _ _ _ _ => rfl) fx_no) (fx_cnd (fun _ _ _ _ _ _ _ _ => rfl) fx_no)))
theorem fk_80_5 (X : ez_X) (pc : Nat) : fx_ok X (ft_80_5 X pc) (ez_t80_5 pc) := by
  delta ft_80_5 ez_t80_5
  exact fx_cnd (fk_80_3 X pc) (fk_80_4 X pc)
theorem fk_80 (X : ez_X) (pc : Nat) : fx_ok X (ft_80 X pc) (ez_t80 pc) := by
  delta ft_80 ez_t80
  exact fx_cnd (fk_80_2 X pc) (fk_80_5 X pc)
theorem fk_81 (X : ez_X) (pc : Nat) : fx_ok X (ft_81 X pc) (ez_t81 pc) := by
  delta ft_81 ez_t81
  exact fx_cnd (fx_cnd (fx_cnd (fx_cnd (fun _ _ _ _ _ _ _ _ => rfl) fx_no) (fx_cnd (fx_cnd (fun _ _ _ _ _ _ _ _ => rfl) fx_no) (fx_cnd (fun _ _ _ _ _ _ _ _ => rfl) fx_no))) (fx_cnd (fx_cnd (fun _ _ _ _ _ _ _ _ => rfl) fx_no) (fx_cnd (fx_cnd (fun _ _ _ _ _ _ _ _ => rfl) fx_no) (fx_cnd (fun _ _ _ _ _ _ _ _ => rfl) fx_no)))) (fx_cnd (fx_cnd (fx_cnd (fun _ _ _ _ _ _ _ _ => rfl) fx_no) (fx_cnd (fx_cnd (fun _ _ _ _ _ _ _ _ => rfl) fx_no) (fx_cnd (fun _ _ _ _ _ _ _ _ => rfl) fx_no))) (fx_cnd (fx_cnd (fun _ _ _ _ _ _ _ _ => rfl) fx_no) (fx_cnd (fx_cnd (fun _ _ _ _ _ _ _ _ => rfl) fx_no) (fx_cnd (fun _ _ _ _ _ _ _ _ => rfl) fx_no))))
theorem fk_82_0 (X : ez_X) (pc : Nat) : fx_ok X (ft_82_0 X pc) (ez_t82_0 pc) := by
  delta ft_82_0 ez_t82_0
  exact fx_cnd (fx_cnd (fx_cnd (fx_cnd (fun _ _ _ _ _ _ _ _ => rfl) fx_no) (fx_cnd (fun _ _ _ _ _ _ _ _ => rfl) fx_no)) (fx_cnd (fx_cnd (fun _ _ _ _ _ _ _ _ => rfl) fx_no) (fx_cnd (fun _ _ _ _ _ _ _ _ => rfl) fx_no))) (fx_cnd (fx_cnd (fx_cnd (fun _ _ _ _ _ _ _ _ => rfl) fx_no) (fx_cnd (fun _ _ _ _ _ _ _ _ => rfl) fx_no)) (fx_cnd (fx_cnd (fun _ _ _ _ _ _ _ _ => rfl) fx_no) (fx_cnd (fx_cnd (fun _ _ _ _ _ _ _ _ => rfl) fx_no) (fx_cnd (fun _ _ _ _ _ _ _ _ => rfl) fx_no))))
theorem fk_82_1 (X : ez_X) (pc : Nat) : fx_ok X (ft_82_1 X pc) (ez_t82_1 pc) := by
  delta ft_82_1 ez_t82_1
  exact fx_cnd (fx_cnd (fx_cnd (fx_cnd (fun _ _ _ _ _ _ _ _ => rfl) fx_no) (fx_cnd (fun _ _ _ _ _ _ _ _ => rfl) fx_no)) (fx_cnd (fx_cnd (fun _ _ _ _ _ _ _ _ => rfl) fx_no) (fx_cnd (fun _ _ _ _ _ _ _ _ => rfl) fx_no))) (fx_cnd (fx_cnd (fx_cnd (fun _ _ _ _ _ _ _ _ => rfl) fx_no) (fx_cnd (fun _ _ _ _ _ _ _ _ => rfl) fx_no)) (fx_cnd (fx_cnd (fun _ _ _ _ _ _ _ _ => rfl) fx_no) (fx_cnd (fx_cnd (fun _ _ _ _ _ _ _ _ => rfl) fx_no) (fx_cnd (fun _ _ _ _ _ _ _ _ => rfl) fx_no))))
theorem fk_82 (X : ez_X) (pc : Nat) : fx_ok X (ft_82 X pc) (ez_t82 pc) := by
  delta ft_82 ez_t82
  exact fx_cnd (fk_82_0 X pc) (fk_82_1 X pc)
theorem fk_83_0 (X : ez_X) (pc : Nat) : fx_ok X (ft_83_0 X pc) (ez_t83_0 pc) := by
  delta ft_83_0 ez_t83_0
  exact fx_cnd (fx_cnd (fx_cnd (fun _ _ _ _ _ _ _ _ => rfl) fx_no) (fx_cnd (fx_cnd (fun _ _ _ _ _ _ _ _ => rfl) fx_no) (fx_cnd (fun _ _ _ _ _ _ _ _ => rfl) fx_no))) (fx_cnd (fx_cnd (fx_cnd (fun _ _ _ _ _ _ _ _ => rfl) fx_no) (fx_cnd (fun _ _ _ _ _ _ _ _ => rfl) fx_no)) (fx_cnd (fx_cnd (fun _ _ _ _ _ _ _ _ => rfl) fx_no) (fx_cnd (fun _ _ _ _ _ _ _ _ => rfl) fx_no)))
theorem fk_83_1 (X : ez_X) (pc : Nat) : fx_ok X (ft_83_1 X pc) (ez_t83_1 pc) := by
  delta ft_83_1 ez_t83_1
  exact fx_cnd (fx_cnd (fx_cnd (fx_cnd (fun _ _ _ _ _ _ _ _ => rfl) fx_no) (fx_cnd (fun _ _ _ _ _ _ _ _ => rfl) fx_no)) (fx_cnd (fx_cnd (fun _ _ _ _ _ _ _ _ => rfl) fx_no) (fx_cnd (fun _ _ _ _ _ _ _ _ => rfl) fx_no))) (fx_cnd (fx_cnd (fx_cnd (fun _ _ _ _ _ _ _ _ => rfl) fx_no) (fx_cnd (fun _ _ _ _ _ _ _ _ => rfl) fx_no)) (fx_cnd (fx_cnd (fun _ _ _ _ _ _ _ _ => rfl) fx_no) (fx_cnd (fun _ _ _ _ _ _ _ _ => rfl) fx_no)))
theorem fk_83_2 (X : ez_X) (pc : Nat) : fx_ok X (ft_83_2 X pc) (ez_t83_2 pc) := by
  delta ft_83_2 ez_t83_2
  exact fx_cnd (fk_83_0 X pc) (fk_83_1 X pc)
theorem fk_83_3 (X : ez_X) (pc : Nat) : fx_ok X (ft_83_3 X pc) (ez_t83_3 pc) := by
  delta ft_83_3 ez_t83_3
  exact fx_cnd (fx_cnd (fx_cnd (fun _ _ _ _ _ _ _ _ => rfl) fx_no) (fx_cnd (fx_cnd (fun _ _ _ _ _ _ _ _ => rfl) fx_no) (fx_cnd (fun _ _ _ _ _ _ _ _ => rfl) fx_no))) (fx_cnd (fx_cnd (fx_cnd (fun _ _ _ _ _ _ _ _ => rfl) fx_no) (fx_cnd (fun _ _ _ _ _ _ _ _ => rfl) fx_no)) (fx_cnd (fx_cnd (fun _ _ _ _ _ _ _ _ => rfl) fx_no) (fx_cnd (fun _ _ _ _ _ _ _ _ => rfl) fx_no)))
theorem fk_83_4 (X : ez_X) (pc : Nat) : fx_ok X (ft_83_4 X pc) (ez_t83_4 pc) := by
  delta ft_83_4 ez_t83_4
  exact fx_cnd (fx_cnd (fx_cnd (fx_cnd (fun _ _ _ _ _ _ _ _ => rfl) fx_no) (fx_cnd (fun _ _ _ _ _ _ _ _ => rfl) fx_no)) (fx_cnd (fx_cnd (fun _ _ _ _ _ _ _ _ => rfl) fx_no) (fx_cnd (fun _ _ _ _ _ _ _ _ => rfl) fx_no))) (fx_cnd (fx_cnd (fx_cnd (fun _ _ _ _ _ _ _ _ => rfl) fx_no) (fx_cnd (fun _ _ _ _ _ _ _ _ => rfl) fx_no)) (fx_cnd (fx_cnd (fun _ _ _ _ _ _ _ _ => rfl) fx_no) (fx_cnd (fun _ _ _ _ _ _ _ _ => rfl) fx_no)))
theorem fk_83_5 (X : ez_X) (pc : Nat) : fx_ok X (ft_83_5 X pc) (ez_t83_5 pc) := by
  delta ft_83_5 ez_t83_5
  exact fx_cnd (fk_83_3 X pc) (fk_83_4 X pc)
theorem fk_83 (X : ez_X) (pc : Nat) : fx_ok X (ft_83 X pc) (ez_t83 pc) := by
  delta ft_83 ez_t83
  exact fx_cnd (fk_83_2 X pc) (fk_83_5 X pc)
theorem fk_84_0 (X : ez_X) (pc : Nat) : fx_ok X (ft_84_0 X pc) (ez_t84_0 pc) := by
  delta ft_84_0 ez_t84_0
  exact fx_cnd (fx_cnd (fx_cnd (fun _ _ _ _ _ _ _ _ => rfl) fx_no) (fx_cnd (fx_cnd (fun _ _ _ _ _ _ _ _ => rfl) fx_no) (fx_cnd (fun _ _ _ _ _ _ _ _ => rfl) fx_no))) (fx_cnd (fx_cnd (fx_cnd (fun _ _ _ _ _ _ _ _ => rfl) fx_no) (fx_cnd (fun _ _ _ _ _ _ _ _ => rfl) fx_no)) (fx_cnd (fx_cnd (fun _ _ _ _ _ _ _ _ => rfl) fx_no) (fx_cnd (fun _ _ _ _ _ _ _ _ => rfl) fx_no)))
theorem fk_84_1 (X : ez_X) (pc : Nat) : fx_ok X (ft_84_1 X pc) (ez_t84_1 pc) := by
  delta ft_84_1 ez_t84_1
  exact fx_cnd (fx_cnd (fx_cnd (fun _ _ _ _ _ _ _ _ => rfl) fx_no) (fx_cnd (fx_cnd (fun _ _ _ _ _ _ _ _ => rfl) fx_no) (fx_cnd (fun _ _ _ _ _ _ _ _ => rfl) fx_no))) (fx_cnd (fx_cnd (fx_cnd (fun _ _ _ _ _ _ _ _ => rfl) fx_no) (fx_cnd (fun _ _ _ _ _ _ _ _ => rfl) fx_no)) (fx_cnd (fx_cnd (fun _ _ _ _ _ _ _ _ => rfl) fx_no) (fx_cnd (fun _ _ _ _ _ _ _ _ => rfl) fx_no)))
theorem fk_84 (X : ez_X) (pc : Nat) : fx_ok X (ft_84 X pc) (ez_t84 pc) := by
  delta ft_84 ez_t84
  exact fx_cnd (fk_84_0 X pc) (fk_84_1 X pc)
theorem fk_85_0 (X : ez_X) (pc : Nat) : fx_ok X (ft_85_0 X pc) (ez_t85_0 pc) := by
  delta ft_85_0 ez_t85_0
  exact fx_cnd (fx_cnd (fx_cnd (fx_cnd (fun _ _ _ _ _ _ _ _ => rfl) fx_no) (fx_cnd (fx_cnd (fun _ _ _ _ _ _ _ _ => rfl) fx_no) (fx_cnd (fun _ _ _ _ _ _ _ _ => rfl) fx_no))) (fx_cnd (fx_cnd (fun _ _ _ _ _ _ _ _ => rfl) fx_no) (fx_cnd (fx_cnd (fun _ _ _ _ _ _ _ _ => rfl) fx_no) (fx_cnd (fun _ _ _ _ _ _ _ _ => rfl) fx_no)))) (fx_cnd (fx_cnd (fx_cnd (fun _ _ _ _ _ _ _ _ => rfl) fx_no) (fx_cnd (fx_cnd (fun _ _ _ _ _ _ _ _ => rfl) fx_no) (fx_cnd (fun _ _ _ _ _ _ _ _ => rfl) fx_no))) (fx_cnd (fx_cnd (fun _ _ _ _ _ _ _ _ => rfl) fx_no) (fx_cnd (fx_cnd (fun _ _ _ _ _ _ _ _ => rfl) fx_no) (fx_cnd (fun _ _ _ _ _ _ _ _ => rfl) fx_no))))
theorem fk_85_1 (X : ez_X) (pc : Nat) : fx_ok X (ft_85_1 X pc) (ez_t85_1 pc) := by
  delta ft_85_1 ez_t85_1
  exact fx_cnd (fx_cnd (fx_cnd (fun _ _ _ _ _ _ _ _ => rfl) fx_no) (fx_cnd (fx_cnd (fun _ _ _ _ _ _ _ _ => rfl) fx_no) (fx_cnd (fun _ _ _ _ _ _ _ _ => rfl) fx_no))) (fx_cnd (fx_cnd (fun _ _ _ _ _ _ _ _ => rfl) fx_no) (fx_cnd (fx_cnd (fun _ _ _ _ _ _ _ _ => rfl) fx_no) (fx_cnd (fun _ _ _ _ _ _ _ _ => rfl) fx_no)))
theorem fk_85_2 (X : ez_X) (pc : Nat) : fx_ok X (ft_85_2 X pc) (ez_t85_2 pc) := by
  delta ft_85_2 ez_t85_2
  exact fx_cnd (fx_cnd (fx_cnd (fun _ _ _ _ _ _ _ _ => rfl) fx_no) (fx_cnd (fx_cnd (fun _ _ _ _ _ _ _ _ => rfl) fx_no) (fx_cnd (fun _ _ _ _ _ _ _ _ => rfl) fx_no))) (fx_cnd (fx_cnd (fx_cnd (fun _ _ _ _ _ _ _ _ => rfl) fx_no) (fx_cnd (fun _ _ _ _ _ _ _ _ => rfl) fx_no)) (fx_cnd (fx_cnd (fun _ _ _ _ _ _ _ _ => rfl) fx_no) (fx_cnd (fun _ _ _ _ _ _ _ _ => rfl) fx_no)))
theorem fk_85_3 (X : ez_X) (pc : Nat) : fx_ok X (ft_85_3 X pc) (ez_t85_3 pc) := by
  delta ft_85_3 ez_t85_3
  exact fx_cnd (fk_85_1 X pc) (fk_85_2 X pc)
theorem fk_85_4 (X : ez_X) (pc : Nat) : fx_ok X (ft_85_4 X pc) (ez_t85_4 pc) := by
  delta ft_85_4 ez_t85_4
  exact fx_cnd (fk_85_0 X pc) (fk_85_3 X pc)
theorem fk_85_5 (X : ez_X) (pc : Nat) : fx_ok X (ft_85_5 X pc) (ez_t85_5 pc) := by
  delta ft_85_5 ez_t85_5
  exact fx_cnd (fx_cnd (fx_cnd (fx_cnd (fun _ _ _ _ _ _ _ _ => rfl) fx_no) (fx_cnd (fx_cnd (fun _ _ _ _ _ _ _ _ => rfl) fx_no) (fx_cnd (fun _ _ _ _ _ _ _ _ => rfl) fx_no))) (fx_cnd (fx_cnd (fun _ _ _ _ _ _ _ _ => rfl) fx_no) (fx_cnd (fx_cnd (fun _ _ _ _ _ _ _ _ => rfl) fx_no) (fx_cnd (fun _ _ _ _ _ _ _ _ => rfl) fx_no)))) (fx_cnd (fx_cnd (fx_cnd (fun _ _ _ _ _ _ _ _ => rfl) fx_no) (fx_cnd (fx_cnd (fun _ _ _ _ _ _ _ _ => rfl) fx_no) (fx_cnd (fun _ _ _ _ _ _ _ _ => rfl) fx_no))) (fx_cnd (fx_cnd (fun _ _ _ _ _ _ _ _ => rfl) fx_no) (fx_cnd (fx_cnd (fun _ _ _ _ _ _ _ _ => rfl) fx_no) (fx_cnd (fun _ _ _ _ _ _ _ _ => rfl) fx_no))))
theorem fk_85_6 (X : ez_X) (pc : Nat) : fx_ok X (ft_85_6 X pc) (ez_t85_6 pc) := by
  delta ft_85_6 ez_t85_6
  exact fx_cnd (fx_cnd (fx_cnd (fun _ _ _ _ _ _ _ _ => rfl) fx_no) (fx_cnd (fx_cnd (fun _ _ _ _ _ _ _ _ => rfl) fx_no) (fx_cnd (fun _ _ _ _ _ _ _ _ => rfl) fx_no))) (fx_cnd (fx_cnd (fun _ _ _ _ _ _ _ _ => rfl) fx_no) (fx_cnd (fx_cnd (fun _ _ _ _ _ _ _ _ => rfl) fx_no) (fx_cnd (fun _ _ _ _ _ _ _ _ => rfl) fx_no)))
theorem fk_85_7 (X : ez_X) (pc : Nat) : fx_ok X (ft_85_7 X pc) (ez_t85_7 pc) := by
  delta ft_85_7 ez_t85_7
  exact fx_cnd (fx_cnd (fx_cnd (fun _ _ _ _ _ _ _ _ => rfl) fx_no) (fx_cnd (fx_cnd (fun _ _ _ _ _ _ _ _ => rfl) fx_no) (fx_cnd (fun _ _ _ _ _ _ _ _ => rfl) fx_no))) (fx_cnd (fx_cnd (fx_cnd (fun _ _ _ _ _ _ _ _ => rfl) fx_no) (fx_cnd (fun _ _ _ _ _ _ _ _ => rfl) fx_no)) (fx_cnd (fx_cnd (fun _ _ _ _ _ _ _ _ => rfl) fx_no) (fx_cnd (fun _ _ _ _ _ _ _ _ => rfl) fx_no)))
theorem fk_85_8 (X : ez_X) (pc : Nat) : fx_ok X (ft_85_8 X pc) (ez_t85_8 pc) := by
  delta ft_85_8 ez_t85_8
  exact fx_cnd (fk_85_6 X pc) (fk_85_7 X pc)
theorem fk_85_9 (X : ez_X) (pc : Nat) : fx_ok X (ft_85_9 X pc) (ez_t85_9 pc) := by
  delta ft_85_9 ez_t85_9
  exact fx_cnd (fk_85_5 X pc) (fk_85_8 X pc)
theorem fk_85 (X : ez_X) (pc : Nat) : fx_ok X (ft_85 X pc) (ez_t85 pc) := by
  delta ft_85 ez_t85
  exact fx_cnd (fk_85_4 X pc) (fk_85_9 X pc)
theorem fk_86_0 (X : ez_X) (pc : Nat) : fx_ok X (ft_86_0 X pc) (ez_t86_0 pc) := by
  delta ft_86_0 ez_t86_0
  exact fx_cnd (fx_cnd (fx_cnd (fx_cnd (fun _ _ _ _ _ _ _ _ => rfl) fx_no) (fx_cnd (fx_cnd (fun _ _ _ _ _ _ _ _ => rfl) fx_no) (fx_cnd (fun _ _ _ _ _ _ _ _ => rfl) fx_no))) (fx_cnd (fx_cnd (fun _ _ _ _ _ _ _ _ => rfl) fx_no) (fx_cnd (fx_cnd (fun _ _ _ _ _ _ _ _ => rfl) fx_no) (fx_cnd (fun _ _ _ _ _ _ _ _ => rfl) fx_no)))) (fx_cnd (fx_cnd (fx_cnd (fun _ _ _ _ _ _ _ _ => rfl) fx_no) (fx_cnd (fx_cnd (fun _ _ _ _ _ _ _ _ => rfl) fx_no) (fx_cnd (fun _ _ _ _ _ _ _ _ => rfl) fx_no))) (fx_cnd (fx_cnd (fun _ _ _ _ _ _ _ _ => rfl) fx_no) (fx_cnd (fx_cnd (fun _ _ _ _ _ _ _ _ => rfl) fx_no) (fx_cnd (fun _ _ _ _ _ _ _ _ => rfl) fx_no))))
theorem fk_86_1 (X : ez_X) (pc : Nat) : fx_ok X (ft_86_1 X pc) (ez_t86_1 pc) := by
  delta ft_86_1 ez_t86_1
  exact fx_cnd (fx_cnd (fx_cnd (fx_cnd (fun _ _ _ _ _ _ _ _ => rfl) fx_no) (fx_cnd (fx_cnd (fun _ _ _ _ _ _ _ _ => rfl) fx_no) (fx_cnd (fun _ _ _ _ _ _ _ _ => rfl) fx_no))) (fx_cnd (fx_cnd (fun _ _ _ _ _ _ _ _ => rfl) fx_no) (fx_cnd (fx_cnd (fun _ _ _ _ _ _ _ _ => rfl) fx_no) (fx_cnd (fun _ _ _ _ _ _ _ _ => rfl) fx_no)))) (fx_cnd (fx_cnd (fx_cnd (fun _ _ _ _ _ _ _ _ => rfl) fx_no) (fx_cnd (fx_cnd (fun _ _ _ _ _ _ _ _ => rfl) fx_no) (fx_cnd (fun _ _ _ _ _ _ _ _ => rfl) fx_no))) (fx_cnd (fx_cnd (fun _ _ _ _ _ _ _ _ => rfl) fx_no) (fx_cnd (fx_cnd (fun _ _ _ _ _ _ _ _ => rfl) fx_no) (fx_cnd (fun _ _ _ _ _ _ _ _ => rfl) fx_no))))
theorem fk_86 (X : ez_X) (pc : Nat) : fx_ok X (ft_86 X pc) (ez_t86 pc) := by
  delta ft_86 ez_t86
  exact fx_cnd (fk_86_0 X pc) (fk_86_1 X pc)
theorem fk_87_0 (X : ez_X) (pc : Nat) : fx_ok X (ft_87_0 X pc) (ez_t87_0 pc) := by
  delta ft_87_0 ez_t87_0
  exact fx_cnd (fx_cnd (fx_cnd (fun _ _ _ _ _ _ _ _ => rfl) fx_no) (fx_cnd (fx_cnd (fun _ _ _ _ _ _ _ _ => rfl) fx_no) (fx_cnd (fun _ _ _ _ _ _ _ _ => rfl) fx_no))) (fx_cnd (fx_cnd (fun _ _ _ _ _ _ _ _ => rfl) fx_no) (fx_cnd (fx_cnd (fun _ _ _ _ _ _ _ _ => rfl) fx_no) (fx_cnd (fun _ _ _ _ _ _ _ _ => rfl) fx_no)))
theorem fk_87_1 (X : ez_X) (pc : Nat) : fx_ok X (ft_87_1 X pc) (ez_t87_1 pc) := by
  delta ft_87_1 ez_t87_1
  exact fx_cnd (fx_cnd (fx_cnd (fun _ _ _ _ _ _ _ _ => rfl) fx_no) (fx_cnd (fx_cnd (fun _ _ _ _ _ _ _ _ => rfl) fx_no) (fx_cnd (fun _ _ _ _ _ _ _ _ => rfl) fx_no))) (fx_cnd (fx_cnd (fx_cnd (fun _ _ _ _ _ _ _ _ => rfl) fx_no) (fx_cnd (fun _ _ _ _ _ _ _ _ => rfl) fx_no)) (fx_cnd (fx_cnd (fun _ _ _ _ _ _ _ _ => rfl) fx_no) (fx_cnd (fun _ _ _ _ _ _ _ _ => rfl) fx_no)))
theorem fk_87_2 (X : ez_X) (pc : Nat) : fx_ok X (ft_87_2 X pc) (ez_t87_2 pc) := by
  delta ft_87_2 ez_t87_2
  exact fx_cnd (fk_87_0 X pc) (fk_87_1 X pc)
theorem fk_87_3 (X : ez_X) (pc : Nat) : fx_ok X (ft_87_3 X pc) (ez_t87_3 pc) := by
  delta ft_87_3 ez_t87_3
  exact fx_cnd (fx_cnd (fx_cnd (fun _ _ _ _ _ _ _ _ => rfl) fx_no) (fx_cnd (fx_cnd (fun _ _ _ _ _ _ _ _ => rfl) fx_no) (fx_cnd (fun _ _ _ _ _ _ _ _ => rfl) fx_no))) (fx_cnd (fx_cnd (fun _ _ _ _ _ _ _ _ => rfl) fx_no) (fx_cnd (fx_cnd (fun _ _ _ _ _ _ _ _ => rfl) fx_no) (fx_cnd (fun _ _ _ _ _ _ _ _ => rfl) fx_no)))
theorem fk_87_4 (X : ez_X) (pc : Nat) : fx_ok X (ft_87_4 X pc) (ez_t87_4 pc) := by
  delta ft_87_4 ez_t87_4
  exact fx_cnd (fx_cnd (fx_cnd (fun _ _ _ _ _ _ _ _ => rfl) fx_no) (fx_cnd (fx_cnd (fun _ _ _ _ _ _ _ _ => rfl) fx_no) (fx_cnd (fun _ _ _ _ _ _ _ _ => rfl) fx_no))) (fx_cnd (fx_cnd (fx_cnd (fun _ _ _ _ _ _ _ _ => rfl) fx_no) (fx_cnd (fun _ _ _ _ _ _ _ _ => rfl) fx_no)) (fx_cnd (fx_cnd (fun _ _ _ _ _ _ _ _ => rfl) fx_no) (fx_cnd (fun _ _ _ _ _ _ _ _ => rfl) fx_no)))
theorem fk_87_5 (X : ez_X) (pc : Nat) : fx_ok X (ft_87_5 X pc) (ez_t87_5 pc) := by
  delta ft_87_5 ez_t87_5
  exact fx_cnd (fk_87_3 X pc) (fk_87_4 X pc)
theorem fk_87 (X : ez_X) (pc : Nat) : fx_ok X (ft_87 X pc) (ez_t87 pc) := by
  delta ft_87 ez_t87
  exact fx_cnd (fk_87_2 X pc) (fk_87_5 X pc)
theorem fk_88 (X : ez_X) (pc : Nat) : fx_ok X (ft_88 X pc) (ez_t88 pc) := by
  delta ft_88 ez_t88
  exact fx_cnd (fx_cnd (fx_cnd (fun _ _ _ _ _ _ _ _ => rfl) fx_no) (fx_cnd (fun _ _ _ _ _ _ _ _ => rfl) fx_no)) (fx_cnd (fx_cnd (fun _ _ _ _ _ _ _ _ => rfl) fx_no) (fx_cnd (fun _ _ _ _ _ _ _ _ => rfl) fx_no))
theorem fk_89 (X : ez_X) (pc : Nat) : fx_ok X (ft_89 X pc) (ez_t89 pc) := by
  delta ft_89 ez_t89
  exact fx_cnd (fx_cnd (fx_cnd (fx_cnd (fun _ _ _ _ _ _ _ _ => rfl) fx_no) (fx_cnd (fx_cnd (fun _ _ _ _ _ _ _ _ => rfl) fx_no) (fx_cnd (fun _ _ _ _ _ _ _ _ => rfl) fx_no))) (fx_cnd (fx_cnd (fun _ _ _ _ _ _ _ _ => rfl) fx_no) (fx_cnd (fx_cnd (fun _ _ _ _ _ _ _ _ => rfl) fx_no) (fx_cnd (fun _ _ _ _ _ _ _ _ => rfl) fx_no)))) (fx_cnd (fx_cnd (fx_cnd (fun _ _ _ _ _ _ _ _ => rfl) fx_no) (fx_cnd (fx_cnd (fun _ _ _ _ _ _ _ _ => rfl) fx_no) (fx_cnd (fun _ _ _ _ _ _ _ _ => rfl) fx_no))) (fx_cnd (fx_cnd (fun _ _ _ _ _ _ _ _ => rfl) fx_no) (fx_cnd (fx_cnd (fun _ _ _ _ _ _ _ _ => rfl) fx_no) (fx_cnd (fun _ _ _ _ _ _ _ _ => rfl) fx_no))))
theorem fk_90_0 (X : ez_X) (pc : Nat) : fx_ok X (ft_90_0 X pc) (ez_t90_0 pc) := by
  delta ft_90_0 ez_t90_0
  exact fx_cnd (fx_cnd (fx_cnd (fx_cnd (fun _ _ _ _ _ _ _ _ => rfl) fx_no) (fx_cnd (fun _ _ _ _ _ _ _ _ => rfl) fx_no)) (fx_cnd (fx_cnd (fun _ _ _ _ _ _ _ _ => rfl) fx_no) (fx_cnd (fx_cnd (fun _ _ _ _ _ _ _ _ => rfl) fx_no) (fx_cnd (fun _ _ _ _ _ _ _ _ => rfl) fx_no)))) (fx_cnd (fx_cnd (fx_cnd (fun _ _ _ _ _ _ _ _ => rfl) fx_no) (fx_cnd (fx_cnd (fun _ _ _ _ _ _ _ _ => rfl) fx_no) (fx_cnd (fun _ _ _ _ _ _ _ _ => rfl) fx_no))) (fx_cnd (fx_cnd (fun _ _ _ _ _ _ _ _ => rfl) fx_no) (fx_cnd (fx_cnd (fun _ _ _ _ _ _ _ _ => rfl) fx_no) (fx_cnd (fun _ _ _ _ _ _ _ _ => rfl) fx_no))))
theorem fk_90_1 (X : ez_X) (pc : Nat) : fx_ok X (ft_90_1 X pc) (ez_t90_1 pc) := by
  delta ft_90_1 ez_t90_1
  exact fx_cnd (fx_cnd (fx_cnd (fx_cnd (fun _ _ _ _ _ _ _ _ => rfl) fx_no) (fx_cnd (fx_cnd (fun _ _ _ _ _ _ _ _ => rfl) fx_no) (fx_cnd (fun _ _ _ _ _ _ _ _ => rfl) fx_no))) (fx_cnd (fx_cnd (fun _ _ _ _ _ _ _ _ => rfl) fx_no) (fx_cnd (fx_cnd (fun _ _ _ _ _ _ _ _ => rfl) fx_no) (fx_cnd (fun _ _ _ _ _ _ _ _ => rfl) fx_no)))) (fx_cnd (fx_cnd (fx_cnd (fun _ _ _ _ _ _ _ _ => rfl) fx_no) (fx_cnd (fx_cnd (fun _ _ _ _ _ _ _ _ => rfl) fx_no) (fx_cnd (fun _ _ _ _ _ _ _ _ => rfl) fx_no))) (fx_cnd (fx_cnd (fun _ _ _ _ _ _ _ _ => rfl) fx_no) (fx_cnd (fx_cnd (fun _ _ _ _ _ _ _ _ => rfl) fx_no) (fx_cnd (fun _ _ _ _ _ _ _ _ => rfl) fx_no))))
theorem fk_90 (X : ez_X) (pc : Nat) : fx_ok X (ft_90 X pc) (ez_t90 pc) := by
  delta ft_90 ez_t90
  exact fx_cnd (fk_90_0 X pc) (fk_90_1 X pc)
theorem fk_91_0 (X : ez_X) (pc : Nat) : fx_ok X (ft_91_0 X pc) (ez_t91_0 pc) := by
  delta ft_91_0 ez_t91_0
  exact fx_cnd (fx_cnd (fx_cnd (fx_cnd (fun _ _ _ _ _ _ _ _ => rfl) fx_no) (fx_cnd (fun _ _ _ _ _ _ _ _ => rfl) fx_no)) (fx_cnd (fx_cnd (fun _ _ _ _ _ _ _ _ => rfl) fx_no) (fx_cnd (fx_cnd (fun _ _ _ _ _ _ _ _ => rfl) fx_no) (fx_cnd (fun _ _ _ _ _ _ _ _ => rfl) fx_no)))) (fx_cnd (fx_cnd (fx_cnd (fun _ _ _ _ _ _ _ _ => rfl) fx_no) (fx_cnd (fun _ _ _ _ _ _ _ _ => rfl) fx_no)) (fx_cnd (fx_cnd (fun _ _ _ _ _ _ _ _ => rfl) fx_no) (fx_cnd (fx_cnd (fun _ _ _ _ _ _ _ _ => rfl) fx_no) (fx_cnd (fun _ _ _ _ _ _ _ _ => rfl) fx_no))))
theorem fk_91_1 (X : ez_X) (pc : Nat) : fx_ok X (ft_91_1 X pc) (ez_t91_1 pc) := by
  delta ft_91_1 ez_t91_1
  exact fx_cnd (fx_cnd (fx_cnd (fx_cnd (fun _ _ _ _ _ _ _ _ => rfl) fx_no) (fx_cnd (fun _ _ _ _ _ _ _ _ => rfl) fx_no)) (fx_cnd (fx_cnd (fun _ _ _ _ _ _ _ _ => rfl) fx_no) (fx_cnd (fx_cnd (fun _ _ _ _ _ _ _ _ => rfl) fx_no) (fx_cnd (fun _ _ _ _ _ _ _ _ => rfl) fx_no)))) (fx_cnd (fx_cnd (fx_cnd (fun _ _ _ _ _ _ _ _ => rfl) fx_no) (fx_cnd (fx_cnd (fun _ _ _ _ _ _ _ _ => rfl) fx_no) (fx_cnd (fun _ _ _ _ _ _ _ _ => rfl) fx_no))) (fx_cnd (fx_cnd (fun _ _ _ _ _ _ _ _ => rfl) fx_no) (fx_cnd (fx_cnd (fun _ _ _ _ _ _ _ _ => rfl) fx_no) (fx_cnd (fun _ _ _ _ _ _ _ _ => rfl) fx_no))))
theorem fk_91_2 (X : ez_X) (pc : Nat) : fx_ok X (ft_91_2 X pc) (ez_t91_2 pc) := by
  delta ft_91_2 ez_t91_2
  exact fx_cnd (fk_91_0 X pc) (fk_91_1 X pc)
theorem fk_91_3 (X : ez_X) (pc : Nat) : fx_ok X (ft_91_3 X pc) (ez_t91_3 pc) := by
  delta ft_91_3 ez_t91_3
  exact fx_cnd (fx_cnd (fx_cnd (fx_cnd (fun _ _ _ _ _ _ _ _ => rfl) fx_no) (fx_cnd (fun _ _ _ _ _ _ _ _ => rfl) fx_no)) (fx_cnd (fx_cnd (fun _ _ _ _ _ _ _ _ => rfl) fx_no) (fx_cnd (fx_cnd (fun _ _ _ _ _ _ _ _ => rfl) fx_no) (fx_cnd (fun _ _ _ _ _ _ _ _ => rfl) fx_no)))) (fx_cnd (fx_cnd (fx_cnd (fun _ _ _ _ _ _ _ _ => rfl) fx_no) (fx_cnd (fun _ _ _ _ _ _ _ _ => rfl) fx_no)) (fx_cnd (fx_cnd (fun _ _ _ _ _ _ _ _ => rfl) fx_no) (fx_cnd (fx_cnd (fun _ _ _ _ _ _ _ _ => rfl) fx_no) (fx_cnd (fun _ _ _ _ _ _ _ _ => rfl) fx_no))))
theorem fk_91_4 (X : ez_X) (pc : Nat) : fx_ok X (ft_91_4 X pc) (ez_t91_4 pc) := by
  delta ft_91_4 ez_t91_4
  exact fx_cnd (fx_cnd (fx_cnd (fx_cnd (fun _ _ _ _ _ _ _ _ => rfl) fx_no) (fx_cnd (fun _ _ _ _ _ _ _ _ => rfl) fx_no)) (fx_cnd (fx_cnd (fun _ _ _ _ _ _ _ _ => rfl) fx_no) (fx_cnd (fx_cnd (fun _ _ _ _ _ _ _ _ => rfl) fx_no) (fx_cnd (fun _ _ _ _ _ _ _ _ => rfl) fx_no)))) (fx_cnd (fx_cnd (fx_cnd (fun _ _ _ _ _ _ _ _ => rfl) fx_no) (fx_cnd (fx_cnd (fun _ _ _ _ _ _ _ _ => rfl) fx_no) (fx_cnd (fun _ _ _ _ _ _ _ _ => rfl) fx_no))) (fx_cnd (fx_cnd (fun _ _ _ _ _ _ _ _ => rfl) fx_no) (fx_cnd (fx_cnd (fun _ _ _ _ _ _ _ _ => rfl) fx_no) (fx_cnd (fun _ _ _ _ _ _ _ _ => rfl) fx_no))))
theorem fk_91_5 (X : ez_X) (pc : Nat) : fx_ok X (ft_91_5 X pc) (ez_t91_5 pc) := by
  delta ft_91_5 ez_t91_5
  exact fx_cnd (fk_91_3 X pc) (fk_91_4 X pc)
theorem fk_91_6 (X : ez_X) (pc : Nat) : fx_ok X (ft_91_6 X pc) (ez_t91_6 pc) := by
  delta ft_91_6 ez_t91_6
  exact fx_cnd (fk_91_2 X pc) (fk_91_5 X pc)
theorem fk_91_7 (X : ez_X) (pc : Nat) : fx_ok X (ft_91_7 X pc) (ez_t91_7 pc) := by
  delta ft_91_7 ez_t91_7
  exact fx_cnd (fx_cnd (fx_cnd (fx_cnd (fun _ _ _ _ _ _ _ _ => rfl) fx_no) (fx_cnd (fun _ _ _ _ _ _ _ _ => rfl) fx_no)) (fx_cnd (fx_cnd (fun _ _ _ _ _ _ _ _ => rfl) fx_no) (fx_cnd (fx_cnd (fun _ _ _ _ _ _ _ _ => rfl) fx_no) (fx_cnd (fun _ _ _ _ _ _ _ _ => rfl) fx_no)))) (fx_cnd (fx_cnd (fx_cnd (fun _ _ _ _ _ _ _ _ => rfl) fx_no) (fx_cnd (fun _ _ _ _ _ _ _ _ => rfl) fx_no)) (fx_cnd (fx_cnd (fun _ _ _ _ _ _ _ _ => rfl) fx_no) (fx_cnd (fx_cnd (fun _ _ _ _ _ _ _ _ => rfl) fx_no) (fx_cnd (fun _ _ _ _ _ _ _ _ => rfl) fx_no))))
theorem fk_91_8 (X : ez_X) (pc : Nat) : fx_ok X (ft_91_8 X pc) (ez_t91_8 pc) := by
  delta ft_91_8 ez_t91_8
  exact fx_cnd (fx_cnd (fx_cnd (fx_cnd (fun _ _ _ _ _ _ _ _ => rfl) fx_no) (fx_cnd (fun _ _ _ _ _ _ _ _ => rfl) fx_no)) (fx_cnd (fx_cnd (fun _ _ _ _ _ _ _ _ => rfl) fx_no) (fx_cnd (fx_cnd (fun _ _ _ _ _ _ _ _ => rfl) fx_no) (fx_cnd (fun _ _ _ _ _ _ _ _ => rfl) fx_no)))) (fx_cnd (fx_cnd (fx_cnd (fun _ _ _ _ _ _ _ _ => rfl) fx_no) (fx_cnd (fx_cnd (fun _ _ _ _ _ _ _ _ => rfl) fx_no) (fx_cnd (fun _ _ _ _ _ _ _ _ => rfl) fx_no))) (fx_cnd (fx_cnd (fun _ _ _ _ _ _ _ _ => rfl) fx_no) (fx_cnd (fx_cnd (fun _ _ _ _ _ _ _ _ => rfl) fx_no) (fx_cnd (fun _ _ _ _ _ _ _ _ => rfl) fx_no))))
theorem fk_91_9 (X : ez_X) (pc : Nat) : fx_ok X (ft_91_9 X pc) (ez_t91_9 pc) := by
  delta ft_91_9 ez_t91_9
  exact fx_cnd (fk_91_7 X pc) (fk_91_8 X pc)
theorem fk_91_10 (X : ez_X) (pc : Nat) : fx_ok X (ft_91_10 X pc) (ez_t91_10 pc) := by
  delta ft_91_10 ez_t91_10
  exact fx_cnd (fx_cnd (fx_cnd (fx_cnd (fun _ _ _ _ _ _ _ _ => rfl) fx_no) (fx_cnd (fun _ _ _ _ _ _ _ _ => rfl) fx_no)) (fx_cnd (fx_cnd (fun _ _ _ _ _ _ _ _ => rfl) fx_no) (fx_cnd (fx_cnd (fun _ _ _ _ _ _ _ _ => rfl) fx_no) (fx_cnd (fun _ _ _ _ _ _ _ _ => rfl) fx_no)))) (fx_cnd (fx_cnd (fx_cnd (fun _ _ _ _ _ _ _ _ => rfl) fx_no) (fx_cnd (fun _ _ _ _ _ _ _ _ => rfl) fx_no)) (fx_cnd (fx_cnd (fun _ _ _ _ _ _ _ _ => rfl) fx_no) (fx_cnd (fx_cnd (fun _ _ _ _ _ _ _ _ => rfl) fx_no) (fx_cnd (fun _ _ _ _ _ _ _ _ => rfl) fx_no))))
theorem fk_91_11 (X : ez_X) (pc : Nat) : fx_ok X (ft_91_11 X pc) (ez_t91_11 pc) := by
  delta ft_91_11 ez_t91_11
  exact fx_cnd (fx_cnd (fx_cnd (fx_cnd (fun _ _ _ _ _ _ _ _ => rfl) fx_no) (fx_cnd (fun _ _ _ _ _ _ _ _ => rfl) fx_no)) (fx_cnd (fx_cnd (fun _ _ _ _ _ _ _ _ => rfl) fx_no) (fx_cnd (fx_cnd (fun _ _ _ _ _ _ _ _ => rfl) fx_no) (fx_cnd (fun _ _ _ _ _ _ _ _ => rfl) fx_no)))) (fx_cnd (fx_cnd (fx_cnd (fun _ _ _ _ _ _ _ _ => rfl) fx_no) (fx_cnd (fx_cnd (fun _ _ _ _ _ _ _ _ => rfl) fx_no) (fx_cnd (fun _ _ _ _ _ _ _ _ => rfl) fx_no))) (fx_cnd (fx_cnd (fun _ _ _ _ _ _ _ _ => rfl) fx_no) (fx_cnd (fx_cnd (fun _ _ _ _ _ _ _ _ => rfl) fx_no) (fx_cnd (fun _ _ _ _ _ _ _ _ => rfl) fx_no))))
theorem fk_91_12 (X : ez_X) (pc : Nat) : fx_ok X (ft_91_12 X pc) (ez_t91_12 pc) := by
  delta ft_91_12 ez_t91_12
  exact fx_cnd (fk_91_10 X pc) (fk_91_11 X pc)
theorem fk_91_13 (X : ez_X) (pc : Nat) : fx_ok X (ft_91_13 X pc) (ez_t91_13 pc) := by
  delta ft_91_13 ez_t91_13
  exact fx_cnd (fk_91_9 X pc) (fk_91_12 X pc)
theorem fk_91 (X : ez_X) (pc : Nat) : fx_ok X (ft_91 X pc) (ez_t91 pc) := by
  delta ft_91 ez_t91
  exact fx_cnd (fk_91_6 X pc) (fk_91_13 X pc)
theorem fk_92_0 (X : ez_X) (pc : Nat) : fx_ok X (ft_92_0 X pc) (ez_t92_0 pc) := by
  delta ft_92_0 ez_t92_0
  exact fx_cnd (fx_cnd (fx_cnd (fx_cnd (fun _ _ _ _ _ _ _ _ => rfl) fx_no) (fx_cnd (fun _ _ _ _ _ _ _ _ => rfl) fx_no)) (fx_cnd (fx_cnd (fun _ _ _ _ _ _ _ _ => rfl) fx_no) (fx_cnd (fun _ _ _ _ _ _ _ _ => rfl) fx_no))) (fx_cnd (fx_cnd (fx_cnd (fun _ _ _ _ _ _ _ _ => rfl) fx_no) (fx_cnd (fun _ _ _ _ _ _ _ _ => rfl) fx_no)) (fx_cnd (fx_cnd (fun _ _ _ _ _ _ _ _ => rfl) fx_no) (fx_cnd (fun _ _ _ _ _ _ _ _ => rfl) fx_no)))
theorem fk_92_1 (X : ez_X) (pc : Nat) : fx_ok X (ft_92_1 X pc) (ez_t92_1 pc) := by
  delta ft_92_1 ez_t92_1
  exact fx_cnd (fx_cnd (fx_cnd (fx_cnd (fun _ _ _ _ _ _ _ _ => rfl) fx_no) (fx_cnd (fun _ _ _ _ _ _ _ _ => rfl) fx_no)) (fx_cnd (fx_cnd (fun _ _ _ _ _ _ _ _ => rfl) fx_no) (fx_cnd (fun _ _ _ _ _ _ _ _ => rfl) fx_no))) (fx_cnd (fx_cnd (fx_cnd (fun _ _ _ _ _ _ _ _ => rfl) fx_no) (fx_cnd (fun _ _ _ _ _ _ _ _ => rfl) fx_no)) (fx_cnd (fx_cnd (fun _ _ _ _ _ _ _ _ => rfl) fx_no) (fx_cnd (fx_cnd (fun _ _ _ _ _ _ _ _ => rfl) fx_no) (fx_cnd (fun _ _ _ _ _ _ _ _ => rfl) fx_no))))
theorem fk_92_2 (X : ez_X) (pc : Nat) : fx_ok X (ft_92_2 X pc) (ez_t92_2 pc) := by
  delta ft_92_2 ez_t92_2
  exact fx_cnd (fk_92_0 X pc) (fk_92_1 X pc)
theorem fk_92_3 (X : ez_X) (pc : Nat) : fx_ok X (ft_92_3 X pc) (ez_t92_3 pc) := by
  delta ft_92_3 ez_t92_3
  exact fx_cnd (fx_cnd (fx_cnd (fx_cnd (fun _ _ _ _ _ _ _ _ => rfl) fx_no) (fx_cnd (fun _ _ _ _ _ _ _ _ => rfl) fx_no)) (fx_cnd (fx_cnd (fun _ _ _ _ _ _ _ _ => rfl) fx_no) (fx_cnd (fun _ _ _ _ _ _ _ _ => rfl) fx_no))) (fx_cnd (fx_cnd (fx_cnd (fun _ _ _ _ _ _ _ _ => rfl) fx_no) (fx_cnd (fun _ _ _ _ _ _ _ _ => rfl) fx_no)) (fx_cnd (fx_cnd (fun _ _ _ _ _ _ _ _ => rfl) fx_no) (fx_cnd (fun _ _ _ _ _ _ _ _ => rfl) fx_no)))
theorem fk_92_4 (X : ez_X) (pc : Nat) : fx_ok X (ft_92_4 X pc) (ez_t92_4 pc) := by
  delta ft_92_4 ez_t92_4
  exact fx_cnd (fx_cnd (fx_cnd (fx_cnd (fun _ _ _ _ _ _ _ _ => rfl) fx_no) (fx_cnd (fun _ _ _ _ _ _ _ _ => rfl) fx_no)) (fx_cnd (fx_cnd (fun _ _ _ _ _ _ _ _ => rfl) fx_no) (fx_cnd (fun _ _ _ _ _ _ _ _ => rfl) fx_no))) (fx_cnd (fx_cnd (fx_cnd (fun _ _ _ _ _ _ _ _ => rfl) fx_no) (fx_cnd (fun _ _ _ _ _ _ _ _ => rfl) fx_no)) (fx_cnd (fx_cnd (fun _ _ _ _ _ _ _ _ => rfl) fx_no) (fx_cnd (fx_cnd (fun _ _ _ _ _ _ _ _ => rfl) fx_no) (fx_cnd (fun _ _ _ _ _ _ _ _ => rfl) fx_no))))
theorem fk_92_5 (X : ez_X) (pc : Nat) : fx_ok X (ft_92_5 X pc) (ez_t92_5 pc) := by
  delta ft_92_5 ez_t92_5
  exact fx_cnd (fk_92_3 X pc) (fk_92_4 X pc)
theorem fk_92 (X : ez_X) (pc : Nat) : fx_ok X (ft_92 X pc) (ez_t92 pc) := by
  delta ft_92 ez_t92
  exact fx_cnd (fk_92_2 X pc) (fk_92_5 X pc)
theorem fk_93_0 (X : ez_X) (pc : Nat) : fx_ok X (ft_93_0 X pc) (ez_t93_0 pc) := by
  delta ft_93_0 ez_t93_0
  exact fx_cnd (fx_cnd (fx_cnd (fx_cnd (fun _ _ _ _ _ _ _ _ => rfl) fx_no) (fx_cnd (fun _ _ _ _ _ _ _ _ => rfl) fx_no)) (fx_cnd (fx_cnd (fun _ _ _ _ _ _ _ _ => rfl) fx_no) (fx_cnd (fun _ _ _ _ _ _ _ _ => rfl) fx_no))) (fx_cnd (fx_cnd (fx_cnd (fun _ _ _ _ _ _ _ _ => rfl) fx_no) (fx_cnd (fun _ _ _ _ _ _ _ _ => rfl) fx_no)) (fx_cnd (fx_cnd (fun _ _ _ _ _ _ _ _ => rfl) fx_no) (fx_cnd (fun _ _ _ _ _ _ _ _ => rfl) fx_no)))
theorem fk_93_1 (X : ez_X) (pc : Nat) : fx_ok X (ft_93_1 X pc) (ez_t93_1 pc) := by
  delta ft_93_1 ez_t93_1
  exact fx_cnd (fx_cnd (fx_cnd (fx_cnd (fun _ _ _ _ _ _ _ _ => rfl) fx_no) (fx_cnd (fun _ _ _ _ _ _ _ _ => rfl) fx_no)) (fx_cnd (fx_cnd (fun _ _ _ _ _ _ _ _ => rfl) fx_no) (fx_cnd (fun _ _ _ _ _ _ _ _ => rfl) fx_no))) (fx_cnd (fx_cnd (fx_cnd (fun _ _ _ _ _ _ _ _ => rfl) fx_no) (fx_cnd (fun _ _ _ _ _ _ _ _ => rfl) fx_no)) (fx_cnd (fx_cnd (fun _ _ _ _ _ _ _ _ => rfl) fx_no) (fx_cnd (fun _ _ _ _ _ _ _ _ => rfl) fx_no)))
theorem fk_93_2 (X : ez_X) (pc : Nat) : fx_ok X (ft_93_2 X pc) (ez_t93_2 pc) := by
  delta ft_93_2 ez_t93_2
  exact fx_cnd (fk_93_0 X pc) (fk_93_1 X pc)
theorem fk_93_3 (X : ez_X) (pc : Nat) : fx_ok X (ft_93_3 X pc) (ez_t93_3 pc) := by
  delta ft_93_3 ez_t93_3
  exact fx_cnd (fx_cnd (fx_cnd (fx_cnd (fun _ _ _ _ _ _ _ _ => rfl) fx_no) (fx_cnd (fun _ _ _ _ _ _ _ _ => rfl) fx_no)) (fx_cnd (fx_cnd (fun _ _ _ _ _ _ _ _ => rfl) fx_no) (fx_cnd (fun _ _ _ _ _ _ _ _ => rfl) fx_no))) (fx_cnd (fx_cnd (fx_cnd (fun _ _ _ _ _ _ _ _ => rfl) fx_no) (fx_cnd (fun _ _ _ _ _ _ _ _ => rfl) fx_no)) (fx_cnd (fx_cnd (fun _ _ _ _ _ _ _ _ => rfl) fx_no) (fx_cnd (fun _ _ _ _ _ _ _ _ => rfl) fx_no)))
theorem fk_93_4 (X : ez_X) (pc : Nat) : fx_ok X (ft_93_4 X pc) (ez_t93_4 pc) := by
  delta ft_93_4 ez_t93_4
  exact fx_cnd (fx_cnd (fx_cnd (fx_cnd (fun _ _ _ _ _ _ _ _ => rfl) fx_no) (fx_cnd (fun _ _ _ _ _ _ _ _ => rfl) fx_no)) (fx_cnd (fx_cnd (fun _ _ _ _ _ _ _ _ => rfl) fx_no) (fx_cnd (fun _ _ _ _ _ _ _ _ => rfl) fx_no))) (fx_cnd (fx_cnd (fx_cnd (fun _ _ _ _ _ _ _ _ => rfl) fx_no) (fx_cnd (fun _ _ _ _ _ _ _ _ => rfl) fx_no)) (fx_cnd (fx_cnd (fun _ _ _ _ _ _ _ _ => rfl) fx_no) (fx_cnd (fx_cnd (fun _ _ _ _ _ _ _ _ => rfl) fx_no) (fx_cnd (fun _ _ _ _ _ _ _ _ => rfl) fx_no))))
theorem fk_93_5 (X : ez_X) (pc : Nat) : fx_ok X (ft_93_5 X pc) (ez_t93_5 pc) := by
  delta ft_93_5 ez_t93_5
  exact fx_cnd (fk_93_3 X pc) (fk_93_4 X pc)
theorem fk_93 (X : ez_X) (pc : Nat) : fx_ok X (ft_93 X pc) (ez_t93 pc) := by
  delta ft_93 ez_t93
  exact fx_cnd (fk_93_2 X pc) (fk_93_5 X pc)
theorem fk_94 (X : ez_X) (pc : Nat) : fx_ok X (ft_94 X pc) (ez_t94 pc) := by
  delta ft_94 ez_t94
  exact fx_cnd (fx_cnd (fx_cnd (fx_cnd (fun _ _ _ _ _ _ _ _ => rfl) fx_no) (fx_cnd (fun _ _ _ _ _ _ _ _ => rfl) fx_no)) (fx_cnd (fx_cnd (fun _ _ _ _ _ _ _ _ => rfl) fx_no) (fx_cnd (fx_cnd (fun _ _ _ _ _ _ _ _ => rfl) fx_no) (fx_cnd (fun _ _ _ _ _ _ _ _ => rfl) fx_no)))) (fx_cnd (fx_cnd (fx_cnd (fun _ _ _ _ _ _ _ _ => rfl) fx_no) (fx_cnd (fx_cnd (fun _ _ _ _ _ _ _ _ => rfl) fx_no) (fx_cnd (fun _ _ _ _ _ _ _ _ => rfl) fx_no))) (fx_cnd (fx_cnd (fun _ _ _ _ _ _ _ _ => rfl) fx_no) (fx_cnd (fx_cnd (fun _ _ _ _ _ _ _ _ => rfl) fx_no) (fx_cnd (fun _ _ _ _ _ _ _ _ => rfl) fx_no))))
theorem fk_95_0 (X : ez_X) (pc : Nat) : fx_ok X (ft_95_0 X pc) (ez_t95_0 pc) := by
  delta ft_95_0 ez_t95_0
  exact fx_cnd (fx_cnd (fx_cnd (fun _ _ _ _ _ _ _ _ => rfl) fx_no) (fx_cnd (fx_cnd (fun _ _ _ _ _ _ _ _ => rfl) fx_no) (fx_cnd (fun _ _ _ _ _ _ _ _ => rfl) fx_no))) (fx_cnd (fx_cnd (fx_cnd (fun _ _ _ _ _ _ _ _ => rfl) fx_no) (fx_cnd (fun _ _ _ _ _ _ _ _ => rfl) fx_no)) (fx_cnd (fx_cnd (fun _ _ _ _ _ _ _ _ => rfl) fx_no) (fx_cnd (fun _ _ _ _ _ _ _ _ => rfl) fx_no)))
theorem fk_95_1 (X : ez_X) (pc : Nat) : fx_ok X (ft_95_1 X pc) (ez_t95_1 pc) := by
  delta ft_95_1 ez_t95_1
  exact fx_cnd (fx_cnd (fx_cnd (fx_cnd (fun _ _ _ _ _ _ _ _ => rfl) fx_no) (fx_cnd (fun _ _ _ _ _ _ _ _ => rfl) fx_no)) (fx_cnd (fx_cnd (fun _ _ _ _ _ _ _ _ => rfl) fx_no) (fx_cnd (fun _ _ _ _ _ _ _ _ => rfl) fx_no))) (fx_cnd (fx_cnd (fx_cnd (fun _ _ _ _ _ _ _ _ => rfl) fx_no) (fx_cnd (fun _ _ _ _ _ _ _ _ => rfl) fx_no)) (fx_cnd (fx_cnd (fun _ _ _ _ _ _ _ _ => rfl) fx_no) (fx_cnd (fun _ _ _ _ _ _ _ _ => rfl) fx_no)))
theorem fk_95 (X : ez_X) (pc : Nat) : fx_ok X (ft_95 X pc) (ez_t95 pc) := by
  delta ft_95 ez_t95
  exact fx_cnd (fk_95_0 X pc) (fk_95_1 X pc)
theorem fk_96_0 (X : ez_X) (pc : Nat) : fx_ok X (ft_96_0 X pc) (ez_t96_0 pc) := by
  delta ft_96_0 ez_t96_0
  exact fx_cnd (fx_cnd (fx_cnd (fun _ _ _ _ _ _ _ _ => rfl) fx_no) (fx_cnd (fx_cnd (fun _ _ _ _ _ _ _ _ => rfl) fx_no) (fx_cnd (fun _ _ _ _ _ _ _ _ => rfl) fx_no))) (fx_cnd (fx_cnd (fun _ _ _ _ _ _ _ _ => rfl) fx_no) (fx_cnd (fx_cnd (fun _ _ _ _ _ _ _ _ => rfl) fx_no) (fx_cnd (fun _ _ _ _ _ _ _ _ => rfl) fx_no)))
theorem fk_96_1 (X : ez_X) (pc : Nat) : fx_ok X (ft_96_1 X pc) (ez_t96_1 pc) := by
  delta ft_96_1 ez_t96_1
  exact fx_cnd (fx_cnd (fx_cnd (fun _ _ _ _ _ _ _ _ => rfl) fx_no) (fx_cnd (fx_cnd (fun _ _ _ _ _ _ _ _ => rfl) fx_no) (fx_cnd (fun _ _ _ _ _ _ _ _ => rfl) fx_no))) (fx_cnd (fx_cnd (fx_cnd (fun _ _ _ _ _ _ _ _ => rfl) fx_no) (fx_cnd (fun _ _ _ _ _ _ _ _ => rfl) fx_no)) (fx_cnd (fx_cnd (fun _ _ _ _ _ _ _ _ => rfl) fx_no) (fx_cnd (fun _ _ _ _ _ _ _ _ => rfl) fx_no)))
theorem fk_96_2 (X : ez_X) (pc : Nat) : fx_ok X (ft_96_2 X pc) (ez_t96_2 pc) := by
  delta ft_96_2 ez_t96_2
  exact fx_cnd (fk_96_0 X pc) (fk_96_1 X pc)
theorem fk_96_3 (X : ez_X) (pc : Nat) : fx_ok X (ft_96_3 X pc) (ez_t96_3 pc) := by
  delta ft_96_3 ez_t96_3
  exact fx_cnd (fx_cnd (fx_cnd (fun _ _ _ _ _ _ _ _ => rfl) fx_no) (fx_cnd (fx_cnd (fun _ _ _ _ _ _ _ _ => rfl) fx_no) (fx_cnd (fun _ _ _ _ _ _ _ _ => rfl) fx_no))) (fx_cnd (fx_cnd (fun _ _ _ _ _ _ _ _ => rfl) fx_no) (fx_cnd (fx_cnd (fun _ _ _ _ _ _ _ _ => rfl) fx_no) (fx_cnd (fun _ _ _ _ _ _ _ _ => rfl) fx_no)))
theorem fk_96_4 (X : ez_X) (pc : Nat) : fx_ok X (ft_96_4 X pc) (ez_t96_4 pc) := by
  delta ft_96_4 ez_t96_4
  exact fx_cnd (fx_cnd (fx_cnd (fun _ _ _ _ _ _ _ _ => rfl) fx_no) (fx_cnd (fx_cnd (fun _ _ _ _ _ _ _ _ => rfl) fx_no) (fx_cnd (fun _ _ _ _ _ _ _ _ => rfl) fx_no))) (fx_cnd (fx_cnd (fx_cnd (fun _ _ _ _ _ _ _ _ => rfl) fx_no) (fx_cnd (fun _ _ _ _ _ _ _ _ => rfl) fx_no)) (fx_cnd (fx_cnd (fun _ _ _ _ _ _ _ _ => rfl) fx_no) (fx_cnd (fun _ _ _ _ _ _ _ _ => rfl) fx_no)))
theorem fk_96_5 (X : ez_X) (pc : Nat) : fx_ok X (ft_96_5 X pc) (ez_t96_5 pc) := by
  delta ft_96_5 ez_t96_5
  exact fx_cnd (fk_96_3 X pc) (fk_96_4 X pc)
theorem fk_96_6 (X : ez_X) (pc : Nat) : fx_ok X (ft_96_6 X pc) (ez_t96_6 pc) := by
  delta ft_96_6 ez_t96_6
  exact fx_cnd (fk_96_2 X pc) (fk_96_5 X pc)
theorem fk_96_7 (X : ez_X) (pc : Nat) : fx_ok X (ft_96_7 X pc) (ez_t96_7 pc) := by
  delta ft_96_7 ez_t96_7
  exact fx_cnd (fx_cnd (fx_cnd (fun _ _ _ _ _ _ _ _ => rfl) fx_no) (fx_cnd (fx_cnd (fun _ _ _ _ _ _ _ _ => rfl) fx_no) (fx_cnd (fun _ _ _ _ _ _ _ _ => rfl) fx_no))) (fx_cnd (fx_cnd (fun _ _ _ _ _ _ _ _ => rfl) fx_no) (fx_cnd (fx_cnd (fun _ _ _ _ _ _ _ _ => rfl) fx_no) (fx_cnd (fun _ _ _ _ _ _ _ _ => rfl) fx_no)))
theorem fk_96_8 (X : ez_X) (pc : Nat) : fx_ok X (ft_96_8 X pc) (ez_t96_8 pc) := by
  delta ft_96_8 ez_t96_8
  exact fx_cnd (fx_cnd (fx_cnd (fun _ _ _ _ _ _ _ _ => rfl) fx_no) (fx_cnd (fx_cnd (fun _ _ _ _ _ _ _ _ => rfl) fx_no) (fx_cnd (fun _ _ _ _ _ _ _ _ => rfl) fx_no))) (fx_cnd (fx_cnd (fx_cnd (fun _ _ _ _ _ _ _ _ => rfl) fx_no) (fx_cnd (fun _ _ _ _ _ _ _ _ => rfl) fx_no)) (fx_cnd (fx_cnd (fun _ _ _ _ _ _ _ _ => rfl) fx_no) (fx_cnd (fun _ _ _ _ _ _ _ _ => rfl) fx_no)))
theorem fk_96_9 (X : ez_X) (pc : Nat) : fx_ok X (ft_96_9 X pc) (ez_t96_9 pc) := by
  delta ft_96_9 ez_t96_9
  exact fx_cnd (fk_96_7 X pc) (fk_96_8 X pc)
theorem fk_96_10 (X : ez_X) (pc : Nat) : fx_ok X (ft_96_10 X pc) (ez_t96_10 pc) := by
  delta ft_96_10 ez_t96_10
  exact fx_cnd (fx_cnd (fx_cnd (fun _ _ _ _ _ _ _ _ => rfl) fx_no) (fx_cnd (fx_cnd (fun _ _ _ _ _ _ _ _ => rfl) fx_no) (fx_cnd (fun _ _ _ _ _ _ _ _ => rfl) fx_no))) (fx_cnd (fx_cnd (fun _ _ _ _ _ _ _ _ => rfl) fx_no) (fx_cnd (fx_cnd (fun _ _ _ _ _ _ _ _ => rfl) fx_no) (fx_cnd (fun _ _ _ _ _ _ _ _ => rfl) fx_no)))
theorem fk_96_11 (X : ez_X) (pc : Nat) : fx_ok X (ft_96_11 X pc) (ez_t96_11 pc) := by
  delta ft_96_11 ez_t96_11
  exact fx_cnd (fx_cnd (fx_cnd (fun _ _ _ _ _ _ _ _ => rfl) fx_no) (fx_cnd (fx_cnd (fun _ _ _ _ _ _ _ _ => rfl) fx_no) (fx_cnd (fun _ _ _ _ _ _ _ _ => rfl) fx_no))) (fx_cnd (fx_cnd (fx_cnd (fun _ _ _ _ _ _ _ _ => rfl) fx_no) (fx_cnd (fun _ _ _ _ _ _ _ _ => rfl) fx_no)) (fx_cnd (fx_cnd (fun _ _ _ _ _ _ _ _ => rfl) fx_no) (fx_cnd (fun _ _ _ _ _ _ _ _ => rfl) fx_no)))
theorem fk_96_12 (X : ez_X) (pc : Nat) : fx_ok X (ft_96_12 X pc) (ez_t96_12 pc) := by
  delta ft_96_12 ez_t96_12
  exact fx_cnd (fk_96_10 X pc) (fk_96_11 X pc)
theorem fk_96_13 (X : ez_X) (pc : Nat) : fx_ok X (ft_96_13 X pc) (ez_t96_13 pc) := by
  delta ft_96_13 ez_t96_13
  exact fx_cnd (fk_96_9 X pc) (fk_96_12 X pc)
theorem fk_96 (X : ez_X) (pc : Nat) : fx_ok X (ft_96 X pc) (ez_t96 pc) := by
  delta ft_96 ez_t96
  exact fx_cnd (fk_96_6 X pc) (fk_96_13 X pc)
theorem fk_97 (X : ez_X) (pc : Nat) : fx_ok X (ft_97 X pc) (ez_t97 pc) := by
  delta ft_97 ez_t97
  exact fx_cnd (fx_cnd (fx_cnd (fun _ _ _ _ _ _ _ _ => rfl) fx_no) (fx_cnd (fun _ _ _ _ _ _ _ _ => rfl) fx_no)) (fx_cnd (fx_cnd (fun _ _ _ _ _ _ _ _ => rfl) fx_no) (fx_cnd (fx_cnd (fun _ _ _ _ _ _ _ _ => rfl) fx_no) (fx_cnd (fun _ _ _ _ _ _ _ _ => rfl) fx_no)))
theorem fk_98_0 (X : ez_X) (pc : Nat) : fx_ok X (ft_98_0 X pc) (ez_t98_0 pc) := by
  delta ft_98_0 ez_t98_0
  exact fx_cnd (fx_cnd (fx_cnd (fx_cnd (fun _ _ _ _ _ _ _ _ => rfl) fx_no) (fx_cnd (fun _ _ _ _ _ _ _ _ => rfl) fx_no)) (fx_cnd (fx_cnd (fun _ _ _ _ _ _ _ _ => rfl) fx_no) (fx_cnd (fx_cnd (fun _ _ _ _ _ _ _ _ => rfl) fx_no) (fx_cnd (fun _ _ _ _ _ _ _ _ => rfl) fx_no)))) (fx_cnd (fx_cnd (fx_cnd (fun _ _ _ _ _ _ _ _ => rfl) fx_no) (fx_cnd (fx_cnd (fun _ _ _ _ _ _ _ _ => rfl) fx_no) (fx_cnd (fun _ _ _ _ _ _ _ _ => rfl) fx_no))) (fx_cnd (fx_cnd (fun _ _ _ _ _ _ _ _ => rfl) fx_no) (fx_cnd (fx_cnd (fun _ _ _ _ _ _ _ _ => rfl) fx_no) (fx_cnd (fun _ _ _ _ _ _ _ _ => rfl) fx_no))))
theorem fk_98_1 (X : ez_X) (pc : Nat) : fx_ok X (ft_98_1 X pc) (ez_t98_1 pc) := by
  delta ft_98_1 ez_t98_1
  exact fx_cnd (fx_cnd (fx_cnd (fx_cnd (fun _ _ _ _ _ _ _ _ => rfl) fx_no) (fx_cnd (fx_cnd (fun _ _ _ _ _ _ _ _ => rfl) fx_no) (fx_cnd (fun _ _ _ _ _ _ _ _ => rfl) fx_no))) (fx_cnd (fx_cnd (fun _ _ _ _ _ _ _ _ => rfl) fx_no) (fx_cnd (fx_cnd (fun _ _ _ _ _ _ _ _ => rfl) fx_no) (fx_cnd (fun _ _ _ _ _ _ _ _ => rfl) fx_no)))) (fx_cnd (fx_cnd (fx_cnd (fun _ _ _ _ _ _ _ _ => rfl) fx_no) (fx_cnd (fx_cnd (fun _ _ _ _ _ _ _ _ => rfl) fx_no) (fx_cnd (fun _ _ _ _ _ _ _ _ => rfl) fx_no))) (fx_cnd (fx_cnd (fun _ _ _ _ _ _ _ _ => rfl) fx_no) (fx_cnd (fx_cnd (fun _ _ _ _ _ _ _ _ => rfl) fx_no) (fx_cnd (fun _ _ _ _ _ _ _ _ => rfl) fx_no))))
theorem fk_98_2 (X : ez_X) (pc : Nat) : fx_ok X (ft_98_2 X pc) (ez_t98_2 pc) := by
  delta ft_98_2 ez_t98_2
  exact fx_cnd (fk_98_0 X pc) (fk_98_1 X pc)
theorem fk_98_3 (X : ez_X) (pc : Nat) : fx_ok X (ft_98_3 X pc) (ez_t98_3 pc) := by
  delta ft_98_3 ez_t98_3
  exact fx_cnd (fx_cnd (fx_cnd (fx_cnd (fun _ _ _ _ _ _ _ _ => rfl) fx_no) (fx_cnd (fun _ _ _ _ _ _ _ _ => rfl) fx_no)) (fx_cnd (fx_cnd (fun _ _ _ _ _ _ _ _ => rfl) fx_no) (fx_cnd (fx_cnd (fun _ _ _ _ _ _ _ _ => rfl) fx_no) (fx_cnd (fun _ _ _ _ _ _ _ _ => rfl) fx_no)))) (fx_cnd (fx_cnd (fx_cnd (fun _ _ _ _ _ _ _ _ => rfl) fx_no) (fx_cnd (fx_cnd (fun _ _ _ _ _ _ _ _ => rfl) fx_no) (fx_cnd (fun _ _ _ _ _ _ _ _ => rfl) fx_no))) (fx_cnd (fx_cnd (fun _ _ _ _ _ _ _ _ => rfl) fx_no) (fx_cnd (fx_cnd (fun _ _ _ _ _ _ _ _ => rfl) fx_no) (fx_cnd (fun _ _ _ _ _ _ _ _ => rfl) fx_no))))
theorem fk_98_4 (X : ez_X) (pc : Nat) : fx_ok X (ft_98_4 X pc) (ez_t98_4 pc) := by
  delta ft_98_4 ez_t98_4
  exact fx_cnd (fx_cnd (fx_cnd (fx_cnd (fun _ _ _ _ _ _ _ _ => rfl) fx_no) (fx_cnd (fx_cnd (fun _ _ _ _ _ _ _ _ => rfl) fx_no) (fx_cnd (fun _ _ _ _ _ _ _ _ => rfl) fx_no))) (fx_cnd (fx_cnd (fun _ _ _ _ _ _ _ _ => rfl) fx_no) (fx_cnd (fx_cnd (fun _ _ _ _ _ _ _ _ => rfl) fx_no) (fx_cnd (fun _ _ _ _ _ _ _ _ => rfl) fx_no)))) (fx_cnd (fx_cnd (fx_cnd (fun _ _ _ _ _ _ _ _ => rfl) fx_no) (fx_cnd (fx_cnd (fun _ _ _ _ _ _ _ _ => rfl) fx_no) (fx_cnd (fun _ _ _ _ _ _ _ _ => rfl) fx_no))) (fx_cnd (fx_cnd (fun _ _ _ _ _ _ _ _ => rfl) fx_no) (fx_cnd (fx_cnd (fun _ _ _ _ _ _ _ _ => rfl) fx_no) (fx_cnd (fun _ _ _ _ _ _ _ _ => rfl) fx_no))))
theorem fk_98_5 (X : ez_X) (pc : Nat) : fx_ok X (ft_98_5 X pc) (ez_t98_5 pc) := by
  delta ft_98_5 ez_t98_5
  exact fx_cnd (fk_98_3 X pc) (fk_98_4 X pc)
theorem fk_98 (X : ez_X) (pc : Nat) : fx_ok X (ft_98 X pc) (ez_t98 pc) := by
  delta ft_98 ez_t98
  exact fx_cnd (fk_98_2 X pc) (fk_98_5 X pc)
theorem fk_99 (X : ez_X) (pc : Nat) : fx_ok X (ft_99 X pc) (ez_t99 pc) := by
  delta ft_99 ez_t99
  exact fx_cnd (fx_cnd (fx_cnd (fun _ _ _ _ _ _ _ _ => rfl) fx_no) (fx_cnd (fx_cnd (fun _ _ _ _ _ _ _ _ => rfl) fx_no) (fx_cnd (fun _ _ _ _ _ _ _ _ => rfl) fx_no))) (fx_cnd (fx_cnd (fx_cnd (fun _ _ _ _ _ _ _ _ => rfl) fx_no) (fx_cnd (fun _ _ _ _ _ _ _ _ => rfl) fx_no)) (fx_cnd (fx_cnd (fun _ _ _ _ _ _ _ _ => rfl) fx_no) (fx_cnd (fun _ _ _ _ _ _ _ _ => rfl) fx_no)))
theorem fk_100_0 (X : ez_X) (pc : Nat) : fx_ok X (ft_100_0 X pc) (ez_t100_0 pc) := by
  delta ft_100_0 ez_t100_0
  exact fx_cnd (fx_cnd (fx_cnd (fun _ _ _ _ _ _ _ _ => rfl) fx_no) (fx_cnd (fx_cnd (fun _ _ _ _ _ _ _ _ => rfl) fx_no) (fx_cnd (fun _ _ _ _ _ _ _ _ => rfl) fx_no))) (fx_cnd (fx_cnd (fx_cnd (fun _ _ _ _ _ _ _ _ => rfl) fx_no) (fx_cnd (fun _ _ _ _ _ _ _ _ => rfl) fx_no)) (fx_cnd (fx_cnd (fun _ _ _ _ _ _ _ _ => rfl) fx_no) (fx_cnd (fun _ _ _ _ _ _ _ _ => rfl) fx_no)))
theorem fk_100_1 (X : ez_X) (pc : Nat) : fx_ok X (ft_100_1 X pc) (ez_t100_1 pc) := by
  delta ft_100_1 ez_t100_1
  exact fx_cnd (fx_cnd (fx_cnd (fx_cnd (fun _ _ _ _ _ _ _ _ => rfl) fx_no) (fx_cnd (fun _ _ _ _ _ _ _ _ => rfl) fx_no)) (fx_cnd (fx_cnd (fun _ _ _ _ _ _ _ _ => rfl) fx_no) (fx_cnd (fun _ _ _ _ _ _ _ _ => rfl) fx_no))) (fx_cnd (fx_cnd (fx_cnd (fun _ _ _ _ _ _ _ _ => rfl) fx_no) (fx_cnd (fun _ _ _ _ _ _ _ _ => rfl) fx_no)) (fx_cnd (fx_cnd (fun _ _ _ _ _ _ _ _ => rfl) fx_no) (fx_cnd (fun _ _ _ _ _ _ _ _ => rfl) fx_no)))
theorem fk_100_2 (X : ez_X) (pc : Nat) : fx_ok X (ft_100_2 X pc) (ez_t100_2 pc) := by
  delta ft_100_2 ez_t100_2
  exact fx_cnd (fk_100_0 X pc) (fk_100_1 X pc)
theorem fk_100_3 (X : ez_X) (pc : Nat) : fx_ok X (ft_100_3 X pc) (ez_t100_3 pc) := by
  delta ft_100_3 ez_t100_3
  exact fx_cnd (fx_cnd (fx_cnd (fun _ _ _ _ _ _ _ _ => rfl) fx_no) (fx_cnd (fx_cnd (fun _ _ _ _ _ _ _ _ => rfl) fx_no) (fx_cnd (fun _ _ _ _ _ _ _ _ => rfl) fx_no))) (fx_cnd (fx_cnd (fx_cnd (fun _ _ _ _ _ _ _ _ => rfl) fx_no) (fx_cnd (fun _ _ _ _ _ _ _ _ => rfl) fx_no)) (fx_cnd (fx_cnd (fun _ _ _ _ _ _ _ _ => rfl) fx_no) (fx_cnd (fun _ _ _ _ _ _ _ _ => rfl) fx_no)))
theorem fk_100_4 (X : ez_X) (pc : Nat) : fx_ok X (ft_100_4 X pc) (ez_t100_4 pc) := by
  delta ft_100_4 ez_t100_4
  exact fx_cnd (fx_cnd (fx_cnd (fx_cnd (fun _ _ _ _ _ _ _ _ => rfl) fx_no) (fx_cnd (fun _ _ _ _ _ _ _ _ => rfl) fx_no)) (fx_cnd (fx_cnd (fun _ _ _ _ _ _ _ _ => rfl) fx_no) (fx_cnd (fun _ _ _ _ _ _ _ _ => rfl) fx_no))) (fx_cnd (fx_cnd (fx_cnd (fun _ _ _ _ _ _ _ _ => rfl) fx_no) (fx_cnd (fun _ _ _ _ _ _ _ _ => rfl) fx_no)) (fx_cnd (fx_cnd (fun _ _ _ _ _ _ _ _ => rfl) fx_no) (fx_cnd (fun _ _ _ _ _ _ _ _ => rfl) fx_no)))
theorem fk_100_5 (X : ez_X) (pc : Nat) : fx_ok X (ft_100_5 X pc) (ez_t100_5 pc) := by
  delta ft_100_5 ez_t100_5
  exact fx_cnd (fk_100_3 X pc) (fk_100_4 X pc)
theorem fk_100 (X : ez_X) (pc : Nat) : fx_ok X (ft_100 X pc) (ez_t100 pc) := by
  delta ft_100 ez_t100
  exact fx_cnd (fk_100_2 X pc) (fk_100_5 X pc)
theorem fk_101_0 (X : ez_X) (pc : Nat) : fx_ok X (ft_101_0 X pc) (ez_t101_0 pc) := by
  delta ft_101_0 ez_t101_0
  exact fx_cnd (fx_cnd (fx_cnd (fun _ _ _ _ _ _ _ _ => rfl) fx_no) (fx_cnd (fx_cnd (fun _ _ _ _ _ _ _ _ => rfl) fx_no) (fx_cnd (fun _ _ _ _ _ _ _ _ => rfl) fx_no))) (fx_cnd (fx_cnd (fx_cnd (fun _ _ _ _ _ _ _ _ => rfl) fx_no) (fx_cnd (fun _ _ _ _ _ _ _ _ => rfl) fx_no)) (fx_cnd (fx_cnd (fun _ _ _ _ _ _ _ _ => rfl) fx_no) (fx_cnd (fun _ _ _ _ _ _ _ _ => rfl) fx_no)))
theorem fk_101_1 (X : ez_X) (pc : Nat) : fx_ok X (ft_101_1 X pc) (ez_t101_1 pc) := by
  delta ft_101_1 ez_t101_1
  exact fx_cnd (fx_cnd (fx_cnd (fx_cnd (fun _ _ _ _ _ _ _ _ => rfl) fx_no) (fx_cnd (fun _ _ _ _ _ _ _ _ => rfl) fx_no)) (fx_cnd (fx_cnd (fun _ _ _ _ _ _ _ _ => rfl) fx_no) (fx_cnd (fun _ _ _ _ _ _ _ _ => rfl) fx_no))) (fx_cnd (fx_cnd (fx_cnd (fun _ _ _ _ _ _ _ _ => rfl) fx_no) (fx_cnd (fun _ _ _ _ _ _ _ _ => rfl) fx_no)) (fx_cnd (fx_cnd (fun _ _ _ _ _ _ _ _ => rfl) fx_no) (fx_cnd (fun _ _ _ _ _ _ _ _ => rfl) fx_no)))
theorem fk_101_2 (X : ez_X) (pc : Nat) : fx_ok X (ft_101_2 X pc) (ez_t101_2 pc) := by
  delta ft_101_2 ez_t101_2
  exact fx_cnd (fk_101_0 X pc) (fk_101_1 X pc)
theorem fk_101_3 (X : ez_X) (pc : Nat) : fx_ok X (ft_101_3 X pc) (ez_t101_3 pc) := by
  delta ft_101_3 ez_t101_3
  exact fx_cnd (fx_cnd (fx_cnd (fx_cnd (fun _ _ _ _ _ _ _ _ => rfl) fx_no) (fx_cnd (fun _ _ _ _ _ _ _ _ => rfl) fx_no)) (fx_cnd (fx_cnd (fun _ _ _ _ _ _ _ _ => rfl) fx_no) (fx_cnd (fun _ _ _ _ _ _ _ _ => rfl) fx_no))) (fx_cnd (fx_cnd (fx_cnd (fun _ _ _ _ _ _ _ _ => rfl) fx_no) (fx_cnd (fun _ _ _ _ _ _ _ _ => rfl) fx_no)) (fx_cnd (fx_cnd (fun _ _ _ _ _ _ _ _ => rfl) fx_no) (fx_cnd (fun _ _ _ _ _ _ _ _ => rfl) fx_no)))
theorem fk_101_4 (X : ez_X) (pc : Nat) : fx_ok X (ft_101_4 X pc) (ez_t101_4 pc) := by
  delta ft_101_4 ez_t101_4
  exact fx_cnd (fx_cnd (fx_cnd (fx_cnd (fun _ _ _ _ _ _ _ _ => rfl) fx_no) (fx_cnd (fun _ _ _ _ _ _ _ _ => rfl) fx_no)) (fx_cnd (fx_cnd (fun _ _ _ _ _ _ _ _ => rfl) fx_no) (fx_cnd (fun _ _ _ _ _ _ _ _ => rfl) fx_no))) (fx_cnd (fx_cnd (fx_cnd (fun _ _ _ _ _ _ _ _ => rfl) fx_no) (fx_cnd (fun _ _ _ _ _ _ _ _ => rfl) fx_no)) (fx_cnd (fx_cnd (fun _ _ _ _ _ _ _ _ => rfl) fx_no) (fx_cnd (fun _ _ _ _ _ _ _ _ => rfl) fx_no)))
theorem fk_101_5 (X : ez_X) (pc : Nat) : fx_ok X (ft_101_5 X pc) (ez_t101_5 pc) := by
  delta ft_101_5 ez_t101_5
  exact fx_cnd (fk_101_3 X pc) (fk_101_4 X pc)
theorem fk_101_6 (X : ez_X) (pc : Nat) : fx_ok X (ft_101_6 X pc) (ez_t101_6 pc) := by
  delta ft_101_6 ez_t101_6
  exact fx_cnd (fk_101_2 X pc) (fk_101_5 X pc)
theorem fk_101_7 (X : ez_X) (pc : Nat) : fx_ok X (ft_101_7 X pc) (ez_t101_7 pc) := by
  delta ft_101_7 ez_t101_7
  exact fx_cnd (fx_cnd (fx_cnd (fun _ _ _ _ _ _ _ _ => rfl) fx_no) (fx_cnd (fx_cnd (fun _ _ _ _ _ _ _ _ => rfl) fx_no) (fx_cnd (fun _ _ _ _ _ _ _ _ => rfl) fx_no))) (fx_cnd (fx_cnd (fx_cnd (fun _ _ _ _ _ _ _ _ => rfl) fx_no) (fx_cnd (fun _ _ _ _ _ _ _ _ => rfl) fx_no)) (fx_cnd (fx_cnd (fun _ _ _ _ _ _ _ _ => rfl) fx_no) (fx_cnd (fun _ _ _ _ _ _ _ _ => rfl) fx_no)))
theorem fk_101_8 (X : ez_X) (pc : Nat) : fx_ok X (ft_101_8 X pc) (ez_t101_8 pc) := by
  delta ft_101_8 ez_t101_8
  exact fx_cnd (fx_cnd (fx_cnd (fx_cnd (fun _ _ _ _ _ _ _ _ => rfl) fx_no) (fx_cnd (fun _ _ _ _ _ _ _ _ => rfl) fx_no)) (fx_cnd (fx_cnd (fun _ _ _ _ _ _ _ _ => rfl) fx_no) (fx_cnd (fun _ _ _ _ _ _ _ _ => rfl) fx_no))) (fx_cnd (fx_cnd (fx_cnd (fun _ _ _ _ _ _ _ _ => rfl) fx_no) (fx_cnd (fun _ _ _ _ _ _ _ _ => rfl) fx_no)) (fx_cnd (fx_cnd (fun _ _ _ _ _ _ _ _ => rfl) fx_no) (fx_cnd (fun _ _ _ _ _ _ _ _ => rfl) fx_no)))
theorem fk_101_9 (X : ez_X) (pc : Nat) : fx_ok X (ft_101_9 X pc) (ez_t101_9 pc) := by
  delta ft_101_9 ez_t101_9
  exact fx_cnd (fk_101_7 X pc) (fk_101_8 X pc)
theorem fk_101_10 (X : ez_X) (pc : Nat) : fx_ok X (ft_101_10 X pc) (ez_t101_10 pc) := by
  delta ft_101_10 ez_t101_10
  exact fx_cnd (fx_cnd (fx_cnd (fx_cnd (fun _ _ _ _ _ _ _ _ => rfl) fx_no) (fx_cnd (fun _ _ _ _ _ _ _ _ => rfl) fx_no)) (fx_cnd (fx_cnd (fun _ _ _ _ _ _ _ _ => rfl) fx_no) (fx_cnd (fun _ _ _ _ _ _ _ _ => rfl) fx_no))) (fx_cnd (fx_cnd (fx_cnd (fun _ _ _ _ _ _ _ _ => rfl) fx_no) (fx_cnd (fun _ _ _ _ _ _ _ _ => rfl) fx_no)) (fx_cnd (fx_cnd (fun _ _ _ _ _ _ _ _ => rfl) fx_no) (fx_cnd (fun _ _ _ _ _ _ _ _ => rfl) fx_no)))
theorem fk_101_11 (X : ez_X) (pc : Nat) : fx_ok X (ft_101_11 X pc) (ez_t101_11 pc) := by
  delta ft_101_11 ez_t101_11
  exact fx_cnd (fx_cnd (fx_cnd (fx_cnd (fun _ _ _ _ _ _ _ _ => rfl) fx_no) (fx_cnd (fun _ _ _ _ _ _ _ _ => rfl) fx_no)) (fx_cnd (fx_cnd (fun _ _ _ _ _ _ _ _ => rfl) fx_no) (fx_cnd (fun _ _ _ _ _ _ _ _ => rfl) fx_no))) (fx_cnd (fx_cnd (fx_cnd (fun _ _ _ _ _ _ _ _ => rfl) fx_no) (fx_cnd (fun _ _ _ _ _ _ _ _ => rfl) fx_no)) (fx_cnd (fx_cnd (fun _ _ _ _ _ _ _ _ => rfl) fx_no) (fx_cnd (fun _ _ _ _ _ _ _ _ => rfl) fx_no)))
theorem fk_101_12 (X : ez_X) (pc : Nat) : fx_ok X (ft_101_12 X pc) (ez_t101_12 pc) := by
  delta ft_101_12 ez_t101_12
  exact fx_cnd (fk_101_10 X pc) (fk_101_11 X pc)
theorem fk_101_13 (X : ez_X) (pc : Nat) : fx_ok X (ft_101_13 X pc) (ez_t101_13 pc) := by
  delta ft_101_13 ez_t101_13
  exact fx_cnd (fk_101_9 X pc) (fk_101_12 X pc)
theorem fk_101 (X : ez_X) (pc : Nat) : fx_ok X (ft_101 X pc) (ez_t101 pc) := by
  delta ft_101 ez_t101
  exact fx_cnd (fk_101_6 X pc) (fk_101_13 X pc)
theorem fk_102_0 (X : ez_X) (pc : Nat) : fx_ok X (ft_102_0 X pc) (ez_t102_0 pc) := by
  delta ft_102_0 ez_t102_0
  exact fx_cnd (fx_cnd (fx_cnd (fx_cnd (fun _ _ _ _ _ _ _ _ => rfl) fx_no) (fx_cnd (fun _ _ _ _ _ _ _ _ => rfl) fx_no)) (fx_cnd (fx_cnd (fun _ _ _ _ _ _ _ _ => rfl) fx_no) (fx_cnd (fun _ _ _ _ _ _ _ _ => rfl) fx_no))) (fx_cnd (fx_cnd (fx_cnd (fun _ _ _ _ _ _ _ _ => rfl) fx_no) (fx_cnd (fun _ _ _ _ _ _ _ _ => rfl) fx_no)) (fx_cnd (fx_cnd (fun _ _ _ _ _ _ _ _ => rfl) fx_no) (fx_cnd (fun _ _ _ _ _ _ _ _ => rfl) fx_no)))
theorem fk_102_1 (X : ez_X) (pc : Nat) : fx_ok X (ft_102_1 X pc) (ez_t102_1 pc) := by
  delta ft_102_1 ez_t102_1
  exact fx_cnd (fx_cnd (fx_cnd (fx_cnd (fun _ _ _ _ _ _ _ _ => rfl) fx_no) (fx_cnd (fun _ _ _ _ _ _ _ _ => rfl) fx_no)) (fx_cnd (fx_cnd (fun _ _ _ _ _ _ _ _ => rfl) fx_no) (fx_cnd (fun _ _ _ _ _ _ _ _ => rfl) fx_no))) (fx_cnd (fx_cnd (fx_cnd (fun _ _ _ _ _ _ _ _ => rfl) fx_no) (fx_cnd (fun _ _ _ _ _ _ _ _ => rfl) fx_no)) (fx_cnd (fx_cnd (fun _ _ _ _ _ _ _ _ => rfl) fx_no) (fx_cnd (fx_cnd (fun _ _ _ _ _ _ _ _ => rfl) fx_no) (fx_cnd (fun _ _ _ _ _ _ _ _ => rfl) fx_no))))
theorem fk_102 (X : ez_X) (pc : Nat) : fx_ok X (ft_102 X pc) (ez_t102 pc) := by
  delta ft_102 ez_t102
  exact fx_cnd (fk_102_0 X pc) (fk_102_1 X pc)
theorem fk_103_0 (X : ez_X) (pc : Nat) : fx_ok X (ft_103_0 X pc) (ez_t103_0 pc) := by
  delta ft_103_0 ez_t103_0
  exact fx_cnd (fx_cnd (fx_cnd (fx_cnd (fun _ _ _ _ _ _ _ _ => rfl) fx_no) (fx_cnd (fun _ _ _ _ _ _ _ _ => rfl) fx_no)) (fx_cnd (fx_cnd (fun _ _ _ _ _ _ _ _ => rfl) fx_no) (fx_cnd (fun _ _ _ _ _ _ _ _ => rfl) fx_no))) (fx_cnd (fx_cnd (fx_cnd (fun _ _ _ _ _ _ _ _ => rfl) fx_no) (fx_cnd (fun _ _ _ _ _ _ _ _ => rfl) fx_no)) (fx_cnd (fx_cnd (fun _ _ _ _ _ _ _ _ => rfl) fx_no) (fx_cnd (fun _ _ _ _ _ _ _ _ => rfl) fx_no)))
theorem fk_103_1 (X : ez_X) (pc : Nat) : fx_ok X (ft_103_1 X pc) (ez_t103_1 pc) := by
  delta ft_103_1 ez_t103_1
  exact fx_cnd (fx_cnd (fx_cnd (fx_cnd (fun _ _ _ _ _ _ _ _ => rfl) fx_no) (fx_cnd (fun _ _ _ _ _ _ _ _ => rfl) fx_no)) (fx_cnd (fx_cnd (fun _ _ _ _ _ _ _ _ => rfl) fx_no) (fx_cnd (fun _ _ _ _ _ _ _ _ => rfl) fx_no))) (fx_cnd (fx_cnd (fx_cnd (fun _ _ _ _ _ _ _ _ => rfl) fx_no) (fx_cnd (fun _ _ _ _ _ _ _ _ => rfl) fx_no)) (fx_cnd (fx_cnd (fun _ _ _ _ _ _ _ _ => rfl) fx_no) (fx_cnd (fun _ _ _ _ _ _ _ _ => rfl) fx_no)))
theorem fk_103_2 (X : ez_X) (pc : Nat) : fx_ok X (ft_103_2 X pc) (ez_t103_2 pc) := by
  delta ft_103_2 ez_t103_2
  exact fx_cnd (fk_103_0 X pc) (fk_103_1 X pc)
theorem fk_103_3 (X : ez_X) (pc : Nat) : fx_ok X (ft_103_3 X pc) (ez_t103_3 pc) := by
  delta ft_103_3 ez_t103_3
  exact fx_cnd (fx_cnd (fx_cnd (fx_cnd (fun _ _ _ _ _ _ _ _ => rfl) fx_no) (fx_cnd (fun _ _ _ _ _ _ _ _ => rfl) fx_no)) (fx_cnd (fx_cnd (fun _ _ _ _ _ _ _ _ => rfl) fx_no) (fx_cnd (fun _ _ _ _ _ _ _ _ => rfl) fx_no))) (fx_cnd (fx_cnd (fx_cnd (fun _ _ _ _ _ _ _ _ => rfl) fx_no) (fx_cnd (fun _ _ _ _ _ _ _ _ => rfl) fx_no)) (fx_cnd (fx_cnd (fun _ _ _ _ _ _ _ _ => rfl) fx_no) (fx_cnd (fun _ _ _ _ _ _ _ _ => rfl) fx_no)))
theorem fk_103_4 (X : ez_X) (pc : Nat) : fx_ok X (ft_103_4 X pc) (ez_t103_4 pc) := by
  delta ft_103_4 ez_t103_4
  exact fx_cnd (fx_cnd (fx_cnd (fx_cnd (fun _ _ _ _ _ _ _ _ => rfl) fx_no) (fx_cnd (fun _ _ _ _ _ _ _ _ => rfl) fx_no)) (fx_cnd (fx_cnd (fun _ _ _ _ _ _ _ _ => rfl) fx_no) (fx_cnd (fun _ _ _ _ _ _ _ _ => rfl) fx_no))) (fx_cnd (fx_cnd (fx_cnd (fun _ _ _ _ _ _ _ _ => rfl) fx_no) (fx_cnd (fun _ _ _ _ _ _ _ _ => rfl) fx_no)) (fx_cnd (fx_cnd (fun _ _ _ _ _ _ _ _ => rfl) fx_no) (fx_cnd (fun _ _ _ _ _ _ _ _ => rfl) fx_no)))
theorem fk_103_5 (X : ez_X) (pc : Nat) : fx_ok X (ft_103_5 X pc) (ez_t103_5 pc) := by
  delta ft_103_5 ez_t103_5
  exact fx_cnd (fk_103_3 X pc) (fk_103_4 X pc)
theorem fk_103 (X : ez_X) (pc : Nat) : fx_ok X (ft_103 X pc) (ez_t103 pc) := by
  delta ft_103 ez_t103
  exact fx_cnd (fk_103_2 X pc) (fk_103_5 X pc)
theorem fk_104_0 (X : ez_X) (pc : Nat) : fx_ok X (ft_104_0 X pc) (ez_t104_0 pc) := by
  delta ft_104_0 ez_t104_0
  exact fx_cnd (fx_cnd (fx_cnd (fx_cnd (fun _ _ _ _ _ _ _ _ => rfl) fx_no) (fx_cnd (fun _ _ _ _ _ _ _ _ => rfl) fx_no)) (fx_cnd (fx_cnd (fun _ _ _ _ _ _ _ _ => rfl) fx_no) (fx_cnd (fun _ _ _ _ _ _ _ _ => rfl) fx_no))) (fx_cnd (fx_cnd (fx_cnd (fun _ _ _ _ _ _ _ _ => rfl) fx_no) (fx_cnd (fun _ _ _ _ _ _ _ _ => rfl) fx_no)) (fx_cnd (fx_cnd (fun _ _ _ _ _ _ _ _ => rfl) fx_no) (fx_cnd (fun _ _ _ _ _ _ _ _ => rfl) fx_no)))
theorem fk_104_1 (X : ez_X) (pc : Nat) : fx_ok X (ft_104_1 X pc) (ez_t104_1 pc) := by
  delta ft_104_1 ez_t104_1
  exact fx_cnd (fx_cnd (fx_cnd (fx_cnd (fun _ _ _ _ _ _ _ _ => rfl) fx_no) (fx_cnd (fun _ _ _ _ _ _ _ _ => rfl) fx_no)) (fx_cnd (fx_cnd (fun _ _ _ _ _ _ _ _ => rfl) fx_no) (fx_cnd (fun _ _ _ _ _ _ _ _ => rfl) fx_no))) (fx_cnd (fx_cnd (fx_cnd (fun _ _ _ _ _ _ _ _ => rfl) fx_no) (fx_cnd (fun _ _ _ _ _ _ _ _ => rfl) fx_no)) (fx_cnd (fx_cnd (fun _ _ _ _ _ _ _ _ => rfl) fx_no) (fx_cnd (fun _ _ _ _ _ _ _ _ => rfl) fx_no)))
theorem fk_104_2 (X : ez_X) (pc : Nat) : fx_ok X (ft_104_2 X pc) (ez_t104_2 pc) := by
  delta ft_104_2 ez_t104_2
  exact fx_cnd (fk_104_0 X pc) (fk_104_1 X pc)
theorem fk_104_3 (X : ez_X) (pc : Nat) : fx_ok X (ft_104_3 X pc) (ez_t104_3 pc) := by
  delta ft_104_3 ez_t104_3
  exact fx_cnd (fx_cnd (fx_cnd (fx_cnd (fun _ _ _ _ _ _ _ _ => rfl) fx_no) (fx_cnd (fun _ _ _ _ _ _ _ _ => rfl) fx_no)) (fx_cnd (fx_cnd (fun _ _ _ _ _ _ _ _ => rfl) fx_no) (fx_cnd (fun _ _ _ _ _ _ _ _ => rfl) fx_no))) (fx_cnd (fx_cnd (fx_cnd (fun _ _ _ _ _ _ _ _ => rfl) fx_no) (fx_cnd (fun _ _ _ _ _ _ _ _ => rfl) fx_no)) (fx_cnd (fx_cnd (fun _ _ _ _ _ _ _ _ => rfl) fx_no) (fx_cnd (fun _ _ _ _ _ _ _ _ => rfl) fx_no)))
theorem fk_104_4 (X : ez_X) (pc : Nat) : fx_ok X (ft_104_4 X pc) (ez_t104_4 pc) := by
  delta ft_104_4 ez_t104_4
  exact fx_cnd (fx_cnd (fx_cnd (fx_cnd (fun _ _ _ _ _ _ _ _ => rfl) fx_no) (fx_cnd (fun _ _ _ _ _ _ _ _ => rfl) fx_no)) (fx_cnd (fx_cnd (fun _ _ _ _ _ _ _ _ => rfl) fx_no) (fx_cnd (fun _ _ _ _ _ _ _ _ => rfl) fx_no))) (fx_cnd (fx_cnd (fx_cnd (fun _ _ _ _ _ _ _ _ => rfl) fx_no) (fx_cnd (fun _ _ _ _ _ _ _ _ => rfl) fx_no)) (fx_cnd (fx_cnd (fun _ _ _ _ _ _ _ _ => rfl) fx_no) (fx_cnd (fun _ _ _ _ _ _ _ _ => rfl) fx_no)))
theorem fk_104_5 (X : ez_X) (pc : Nat) : fx_ok X (ft_104_5 X pc) (ez_t104_5 pc) := by
  delta ft_104_5 ez_t104_5
  exact fx_cnd (fk_104_3 X pc) (fk_104_4 X pc)
theorem fk_104 (X : ez_X) (pc : Nat) : fx_ok X (ft_104 X pc) (ez_t104 pc) := by
  delta ft_104 ez_t104
  exact fx_cnd (fk_104_2 X pc) (fk_104_5 X pc)
theorem fk_105_0 (X : ez_X) (pc : Nat) : fx_ok X (ft_105_0 X pc) (ez_t105_0 pc) := by
  delta ft_105_0 ez_t105_0
  exact fx_cnd (fx_cnd (fx_cnd (fx_cnd (fun _ _ _ _ _ _ _ _ => rfl) fx_no) (fx_cnd (fun _ _ _ _ _ _ _ _ => rfl) fx_no)) (fx_cnd (fx_cnd (fun _ _ _ _ _ _ _ _ => rfl) fx_no) (fx_cnd (fun _ _ _ _ _ _ _ _ => rfl) fx_no))) (fx_cnd (fx_cnd (fx_cnd (fun _ _ _ _ _ _ _ _ => rfl) fx_no) (fx_cnd (fun _ _ _ _ _ _ _ _ => rfl) fx_no)) (fx_cnd (fx_cnd (fun _ _ _ _ _ _ _ _ => rfl) fx_no) (fx_cnd (fun _ _ _ _ _ _ _ _ => rfl) fx_no)))
theorem fk_105_1 (X : ez_X) (pc : Nat) : fx_ok X (ft_105_1 X pc) (ez_t105_1 pc) := by
  delta ft_105_1 ez_t105_1
  exact fx_cnd (fx_cnd (fx_cnd (fx_cnd (fun _ _ _ _ _ _ _ _ => rfl) fx_no) (fx_cnd (fun _ _ _ _ _ _ _ _ => rfl) fx_no)) (fx_cnd (fx_cnd (fun _ _ _ _ _ _ _ _ => rfl) fx_no) (fx_cnd (fun _ _ _ _ _ _ _ _ => rfl) fx_no))) (fx_cnd (fx_cnd (fx_cnd (fun _ _ _ _ _ _ _ _ => rfl) fx_no) (fx_cnd (fun _ _ _ _ _ _ _ _ => rfl) fx_no)) (fx_cnd (fx_cnd (fun _ _ _ _ _ _ _ _ => rfl) fx_no) (fx_cnd (fx_cnd (fun _ _ _ _ _ _ _ _ => rfl) fx_no) (fx_cnd (fun _ _ _ _ _ _ _ _ => rfl) fx_no))))
theorem fk_105_2 (X : ez_X) (pc : Nat) : fx_ok X (ft_105_2 X pc) (ez_t105_2 pc) := by
  delta ft_105_2 ez_t105_2
  exact fx_cnd (fk_105_0 X pc) (fk_105_1 X pc)
theorem fk_105_3 (X : ez_X) (pc : Nat) : fx_ok X (ft_105_3 X pc) (ez_t105_3 pc) := by
  delta ft_105_3 ez_t105_3
  exact fx_cnd (fx_cnd (fx_cnd (fx_cnd (fun _ _ _ _ _ _ _ _ => rfl) fx_no) (fx_cnd (fun _ _ _ _ _ _ _ _ => rfl) fx_no)) (fx_cnd (fx_cnd (fun _ _ _ _ _ _ _ _ => rfl) fx_no) (fx_cnd (fun _ _ _ _ _ _ _ _ => rfl) fx_no))) (fx_cnd (fx_cnd (fx_cnd (fun _ _ _ _ _ _ _ _ => rfl) fx_no) (fx_cnd (fun _ _ _ _ _ _ _ _ => rfl) fx_no)) (fx_cnd (fx_cnd (fun _ _ _ _ _ _ _ _ => rfl) fx_no) (fx_cnd (fx_cnd (fun _ _ _ _ _ _ _ _ => rfl) fx_no) (fx_cnd (fun _ _ _ _ _ _ _ _ => rfl) fx_no))))
theorem fk_105_4 (X : ez_X) (pc : Nat) : fx_ok X (ft_105_4 X pc) (ez_t105_4 pc) := by
  delta ft_105_4 ez_t105_4
  exact fx_cnd (fx_cnd (fx_cnd (fx_cnd (fun _ _ _ _ _ _ _ _ => rfl) fx_no) (fx_cnd (fun _ _ _ _ _ _ _ _ => rfl) fx_no)) (fx_cnd (fx_cnd (fun _ _ _ _ _ _ _ _ => rfl) fx_no) (fx_cnd (fun _ _ _ _ _ _ _ _ => rfl) fx_no))) (fx_cnd (fx_cnd (fx_cnd (fun _ _ _ _ _ _ _ _ => rfl) fx_no) (fx_cnd (fun _ _ _ _ _ _ _ _ => rfl) fx_no)) (fx_cnd (fx_cnd (fun _ _ _ _ _ _ _ _ => rfl) fx_no) (fx_cnd (fx_cnd (fun _ _ _ _ _ _ _ _ => rfl) fx_no) (fx_cnd (fun _ _ _ _ _ _ _ _ => rfl) fx_no))))
theorem fk_105_5 (X : ez_X) (pc : Nat) : fx_ok X (ft_105_5 X pc) (ez_t105_5 pc) := by
  delta ft_105_5 ez_t105_5
  exact fx_cnd (fk_105_3 X pc) (fk_105_4 X pc)
theorem fk_105 (X : ez_X) (pc : Nat) : fx_ok X (ft_105 X pc) (ez_t105 pc) := by
  delta ft_105 ez_t105
  exact fx_cnd (fk_105_2 X pc) (fk_105_5 X pc)
theorem fk_106 (X : ez_X) (pc : Nat) : fx_ok X (ft_106 X pc) (ez_t106 pc) := by
  delta ft_106 ez_t106
  exact fx_cnd (fx_cnd (fx_cnd (fun _ _ _ _ _ _ _ _ => rfl) fx_no) (fx_cnd (fun _ _ _ _ _ _ _ _ => rfl) fx_no)) (fx_cnd (fx_cnd (fun _ _ _ _ _ _ _ _ => rfl) fx_no) (fx_cnd (fun _ _ _ _ _ _ _ _ => rfl) fx_no))
theorem fk_107 (X : ez_X) (pc : Nat) : fx_ok X (ft_107 X pc) (ez_t107 pc) := by
  delta ft_107 ez_t107
  exact fx_cnd (fx_cnd (fx_cnd (fun _ _ _ _ _ _ _ _ => rfl) fx_no) (fx_cnd (fun _ _ _ _ _ _ _ _ => rfl) fx_no)) (fx_cnd (fx_cnd (fun _ _ _ _ _ _ _ _ => rfl) fx_no) (fx_cnd (fun _ _ _ _ _ _ _ _ => rfl) fx_no))
theorem fk_108_0 (X : ez_X) (pc : Nat) : fx_ok X (ft_108_0 X pc) (ez_t108_0 pc) := by
  delta ft_108_0 ez_t108_0
  exact fx_cnd (fx_cnd (fx_cnd (fun _ _ _ _ _ _ _ _ => rfl) fx_no) (fx_cnd (fx_cnd (fun _ _ _ _ _ _ _ _ => rfl) fx_no) (fx_cnd (fun _ _ _ _ _ _ _ _ => rfl) fx_no))) (fx_cnd (fx_cnd (fx_cnd (fun _ _ _ _ _ _ _ _ => rfl) fx_no) (fx_cnd (fun _ _ _ _ _ _ _ _ => rfl) fx_no)) (fx_cnd (fx_cnd (fun _ _ _ _ _ _ _ _ => rfl) fx_no) (fx_cnd (fun _ _ _ _ _ _ _ _ => rfl) fx_no)))
theorem fk_108_1 (X : ez_X) (pc : Nat) : fx_ok X (ft_108_1 X pc) (ez_t108_1 pc) := by
  delta ft_108_1 ez_t108_1
  exact fx_cnd (fx_cnd (fx_cnd (fun _ _ _ _ _ _ _ _ => rfl) fx_no) (fx_cnd (fx_cnd (fun _ _ _ _ _ _ _ _ => rfl) fx_no) (fx_cnd (fun _ _ _ _ _ _ _ _ => rfl) fx_no))) (fx_cnd (fx_cnd (fx_cnd (fun _ _ _ _ _ _ _ _ => rfl) fx_no) (fx_cnd (fun _ _ _ _ _ _ _ _ => rfl) fx_no)) (fx_cnd (fx_cnd (fun _ _ _ _ _ _ _ _ => rfl) fx_no) (fx_cnd (fun _ _ _ _ _ _ _ _ => rfl) fx_no)))
theorem fk_108_2 (X : ez_X) (pc : Nat) : fx_ok X (ft_108_2 X pc) (ez_t108_2 pc) := by
  delta ft_108_2 ez_t108_2
  exact fx_cnd (fk_108_0 X pc) (fk_108_1 X pc)
theorem fk_108_3 (X : ez_X) (pc : Nat) : fx_ok X (ft_108_3 X pc) (ez_t108_3 pc) := by
  delta ft_108_3 ez_t108_3
  exact fx_cnd (fx_cnd (fx_cnd (fun _ _ _ _ _ _ _ _ => rfl) fx_no) (fx_cnd (fx_cnd (fun _ _ _ _ _ _ _ _ => rfl) fx_no) (fx_cnd (fun _ _ _ _ _ _ _ _ => rfl) fx_no))) (fx_cnd (fx_cnd (fx_cnd (fun _ _ _ _ _ _ _ _ => rfl) fx_no) (fx_cnd (fun _ _ _ _ _ _ _ _ => rfl) fx_no)) (fx_cnd (fx_cnd (fun _ _ _ _ _ _ _ _ => rfl) fx_no) (fx_cnd (fun _ _ _ _ _ _ _ _ => rfl) fx_no)))
theorem fk_108_4 (X : ez_X) (pc : Nat) : fx_ok X (ft_108_4 X pc) (ez_t108_4 pc) := by
  delta ft_108_4 ez_t108_4
  exact fx_cnd (fx_cnd (fx_cnd (fx_cnd (fun _ _ _ _ _ _ _ _ => rfl) fx_no) (fx_cnd (fun _ _ _ _ _ _ _ _ => rfl) fx_no)) (fx_cnd (fx_cnd (fun _ _ _ _ _ _ _ _ => rfl) fx_no) (fx_cnd (fun _ _ _ _ _ _ _ _ => rfl) fx_no))) (fx_cnd (fx_cnd (fx_cnd (fun _ _ _ _ _ _ _ _ => rfl) fx_no) (fx_cnd (fun _ _ _ _ _ _ _ _ => rfl) fx_no)) (fx_cnd (fx_cnd (fun _ _ _ _ _ _ _ _ => rfl) fx_no) (fx_cnd (fun _ _ _ _ _ _ _ _ => rfl) fx_no)))
theorem fk_108_5 (X : ez_X) (pc : Nat) : fx_ok X (ft_108_5 X pc) (ez_t108_5 pc) := by
  delta ft_108_5 ez_t108_5
  exact fx_cnd (fk_108_3 X pc) (fk_108_4 X pc)
theorem fk_108 (X : ez_X) (pc : Nat) : fx_ok X (ft_108 X pc) (ez_t108 pc) := by
  delta ft_108 ez_t108
  exact fx_cnd (fk_108_2 X pc) (fk_108_5 X pc)
theorem fk_109_0 (X : ez_X) (pc : Nat) : fx_ok X (ft_109_0 X pc) (ez_t109_0 pc) := by
  delta ft_109_0 ez_t109_0
  exact fx_cnd (fx_cnd (fx_cnd (fun _ _ _ _ _ _ _ _ => rfl) fx_no) (fx_cnd (fx_cnd (fun _ _ _ _ _ _ _ _ => rfl) fx_no) (fx_cnd (fun _ _ _ _ _ _ _ _ => rfl) fx_no))) (fx_cnd (fx_cnd (fun _ _ _ _ _ _ _ _ => rfl) fx_no) (fx_cnd (fx_cnd (fun _ _ _ _ _ _ _ _ => rfl) fx_no) (fx_cnd (fun _ _ _ _ _ _ _ _ => rfl) fx_no)))
theorem fk_109_1 (X : ez_X) (pc : Nat) : fx_ok X (ft_109_1 X pc) (ez_t109_1 pc) := by
  delta ft_109_1 ez_t109_1
  exact fx_cnd (fx_cnd (fx_cnd (fun _ _ _ _ _ _ _ _ => rfl) fx_no) (fx_cnd (fx_cnd (fun _ _ _ _ _ _ _ _ => rfl) fx_no) (fx_cnd (fun _ _ _ _ _ _ _ _ => rfl) fx_no))) (fx_cnd (fx_cnd (fx_cnd (fun _ _ _ _ _ _ _ _ => rfl) fx_no) (fx_cnd (fun _ _ _ _ _ _ _ _ => rfl) fx_no)) (fx_cnd (fx_cnd (fun _ _ _ _ _ _ _ _ => rfl) fx_no) (fx_cnd (fun _ _ _ _ _ _ _ _ => rfl) fx_no)))
theorem fk_109 (X : ez_X) (pc : Nat) : fx_ok X (ft_109 X pc) (ez_t109 pc) := by
  delta ft_109 ez_t109
  exact fx_cnd (fk_109_0 X pc) (fk_109_1 X pc)
theorem fk_110_0 (X : ez_X) (pc : Nat) : fx_ok X (ft_110_0 X pc) (ez_t110_0 pc) := by
  delta ft_110_0 ez_t110_0
  exact fx_cnd (fx_cnd (fx_cnd (fx_cnd (fun _ _ _ _ _ _ _ _ => rfl) fx_no) (fx_cnd (fun _ _ _ _ _ _ _ _ => rfl) fx_no)) (fx_cnd (fx_cnd (fun _ _ _ _ _ _ _ _ => rfl) fx_no) (fx_cnd (fx_cnd (fun _ _ _ _ _ _ _ _ => rfl) fx_no) (fx_cnd (fun _ _ _ _ _ _ _ _ => rfl) fx_no)))) (fx_cnd (fx_cnd (fx_cnd (fun _ _ _ _ _ _ _ _ => rfl) fx_no) (fx_cnd (fx_cnd (fun _ _ _ _ _ _ _ _ => rfl) fx_no) (fx_cnd (fun _ _ _ _ _ _ _ _ => rfl) fx_no))) (fx_cnd (fx_cnd (fun _ _ _ _ _ _ _ _ => rfl) fx_no) (fx_cnd (fx_cnd (fun _ _ _ _ _ _ _ _ => rfl) fx_no) (fx_cnd (fun _ _ _ _ _ _ _ _ => rfl) fx_no))))
theorem fk_110_1 (X : ez_X) (pc : Nat) : fx_ok X (ft_110_1 X pc) (ez_t110_1 pc) := by
  delta ft_110_1 ez_t110_1
  exact fx_cnd (fx_cnd (fx_cnd (fx_cnd (fun _ _ _ _ _ _ _ _ => rfl) fx_no) (fx_cnd (fx_cnd (fun _ _ _ _ _ _ _ _ => rfl) fx_no) (fx_cnd (fun _ _ _ _ _ _ _ _ => rfl) fx_no))) (fx_cnd (fx_cnd (fun _ _ _ _ _ _ _ _ => rfl) fx_no) (fx_cnd (fx_cnd (fun _ _ _ _ _ _ _ _ => rfl) fx_no) (fx_cnd (fun _ _ _ _ _ _ _ _ => rfl) fx_no)))) (fx_cnd (fx_cnd (fx_cnd (fun _ _ _ _ _ _ _ _ => rfl) fx_no) (fx_cnd (fx_cnd (fun _ _ _ _ _ _ _ _ => rfl) fx_no) (fx_cnd (fun _ _ _ _ _ _ _ _ => rfl) fx_no))) (fx_cnd (fx_cnd (fun _ _ _ _ _ _ _ _ => rfl) fx_no) (fx_cnd (fx_cnd (fun _ _ _ _ _ _ _ _ => rfl) fx_no) (fx_cnd (fun _ _ _ _ _ _ _ _ => rfl) fx_no))))
theorem fk_110 (X : ez_X) (pc : Nat) : fx_ok X (ft_110 X pc) (ez_t110 pc) := by
  delta ft_110 ez_t110
  exact fx_cnd (fk_110_0 X pc) (fk_110_1 X pc)
theorem fk_111 (X : ez_X) (pc : Nat) : fx_ok X (ft_111 X pc) (ez_t111 pc) := by
  delta ft_111 ez_t111
  exact fx_cnd (fx_cnd (fx_cnd (fun _ _ _ _ _ _ _ _ => rfl) fx_no) (fx_cnd (fun _ _ _ _ _ _ _ _ => rfl) fx_no)) (fx_cnd (fx_cnd (fun _ _ _ _ _ _ _ _ => rfl) fx_no) (fx_cnd (fx_cnd (fun _ _ _ _ _ _ _ _ => rfl) fx_no) (fx_cnd (fun _ _ _ _ _ _ _ _ => rfl) fx_no)))
theorem fk_112_0 (X : ez_X) (pc : Nat) : fx_ok X (ft_112_0 X pc) (ez_t112_0 pc) := by
  delta ft_112_0 ez_t112_0
  exact fx_cnd (fx_cnd (fx_cnd (fun _ _ _ _ _ _ _ _ => rfl) fx_no) (fx_cnd (fx_cnd (fun _ _ _ _ _ _ _ _ => rfl) fx_no) (fx_cnd (fun _ _ _ _ _ _ _ _ => rfl) fx_no))) (fx_cnd (fx_cnd (fx_cnd (fun _ _ _ _ _ _ _ _ => rfl) fx_no) (fx_cnd (fun _ _ _ _ _ _ _ _ => rfl) fx_no)) (fx_cnd (fx_cnd (fun _ _ _ _ _ _ _ _ => rfl) fx_no) (fx_cnd (fun _ _ _ _ _ _ _ _ => rfl) fx_no)))
theorem fk_112_1 (X : ez_X) (pc : Nat) : fx_ok X (ft_112_1 X pc) (ez_t112_1 pc) := by
  delta ft_112_1 ez_t112_1
  exact fx_cnd (fx_cnd (fx_cnd (fx_cnd (fun _ _ _ _ _ _ _ _ => rfl) fx_no) (fx_cnd (fun _ _ _ _ _ _ _ _ => rfl) fx_no)) (fx_cnd (fx_cnd (fun _ _ _ _ _ _ _ _ => rfl) fx_no) (fx_cnd (fun _ _ _ _ _ _ _ _ => rfl) fx_no))) (fx_cnd (fx_cnd (fx_cnd (fun _ _ _ _ _ _ _ _ => rfl) fx_no) (fx_cnd (fun _ _ _ _ _ _ _ _ => rfl) fx_no)) (fx_cnd (fx_cnd (fun _ _ _ _ _ _ _ _ => rfl) fx_no) (fx_cnd (fun _ _ _ _ _ _ _ _ => rfl) fx_no)))
theorem fk_112_2 (X : ez_X) (pc : Nat) : fx_ok X (ft_112_2 X pc) (ez_t112_2 pc) := by
  delta ft_112_2 ez_t112_2
  exact fx_cnd (fk_112_0 X pc) (fk_112_1 X pc)
theorem fk_112_3 (X : ez_X) (pc : Nat) : fx_ok X (ft_112_3 X pc) (ez_t112_3 pc) := by
  delta ft_112_3 ez_t112_3
  exact fx_cnd (fx_cnd (fx_cnd (fun _ _ _ _ _ _ _ _ => rfl) fx_no) (fx_cnd (fx_cnd (fun _ _ _ _ _ _ _ _ => rfl) fx_no) (fx_cnd (fun _ _ _ _ _ _ _ _ => rfl) fx_no))) (fx_cnd (fx_cnd (fx_cnd (fun _ _ _ _ _ _ _ _ => rfl) fx_no) (fx_cnd (fun _ _ _ _ _ _ _ _ => rfl) fx_no)) (fx_cnd (fx_cnd (fun _ _ _ _ _ _ _ _ => rfl) fx_no) (fx_cnd (fun _ _ _ _ _ _ _ _ => rfl) fx_no)))
theorem fk_112_4 (X : ez_X) (pc : Nat) : fx_ok X (ft_112_4 X pc) (ez_t112_4 pc) := by
  delta ft_112_4 ez_t112_4
  exact fx_cnd (fx_cnd (fx_cnd (fx_cnd (fun _ _ _ _ _ _ _ _ => rfl) fx_no) (fx_cnd (fun _ _ _ _ _ _ _ _ => rfl) fx_no)) (fx_cnd (fx_cnd (fun _ _ _ _ _ _ _ _ => rfl) fx_no) (fx_cnd (fun _ _ _ _ _ _ _ _ => rfl) fx_no))) (fx_cnd (fx_cnd (fx_cnd (fun _ _ _ _ _ _ _ _ => rfl) fx_no) (fx_cnd (fun _ _ _ _ _ _ _ _ => rfl) fx_no)) (fx_cnd (fx_cnd (fun _ _ _ _ _ _ _ _ => rfl) fx_no) (fx_cnd (fun _ _ _ _ _ _ _ _ => rfl) fx_no)))
theorem fk_112_5 (X : ez_X) (pc : Nat) : fx_ok X (ft_112_5 X pc) (ez_t112_5 pc) := by
  delta ft_112_5 ez_t112_5
  exact fx_cnd (fk_112_3 X pc) (fk_112_4 X pc)
theorem fk_112_6 (X : ez_X) (pc : Nat) : fx_ok X (ft_112_6 X pc) (ez_t112_6 pc) := by
  delta ft_112_6 ez_t112_6
  exact fx_cnd (fk_112_2 X pc) (fk_112_5 X pc)
theorem fk_112_7 (X : ez_X) (pc : Nat) : fx_ok X (ft_112_7 X pc) (ez_t112_7 pc) := by
  delta ft_112_7 ez_t112_7
  exact fx_cnd (fx_cnd (fx_cnd (fun _ _ _ _ _ _ _ _ => rfl) fx_no) (fx_cnd (fx_cnd (fun _ _ _ _ _ _ _ _ => rfl) fx_no) (fx_cnd (fun _ _ _ _ _ _ _ _ => rfl) fx_no))) (fx_cnd (fx_cnd (fx_cnd (fun _ _ _ _ _ _ _ _ => rfl) fx_no) (fx_cnd (fun _ _ _ _ _ _ _ _ => rfl) fx_no)) (fx_cnd (fx_cnd (fun _ _ _ _ _ _ _ _ => rfl) fx_no) (fx_cnd (fun _ _ _ _ _ _ _ _ => rfl) fx_no)))
theorem fk_112_8 (X : ez_X) (pc : Nat) : fx_ok X (ft_112_8 X pc) (ez_t112_8 pc) := by
  delta ft_112_8 ez_t112_8
  exact fx_cnd (fx_cnd (fx_cnd (fx_cnd (fun _ _ _ _ _ _ _ _ => rfl) fx_no) (fx_cnd (fun _ _ _ _ _ _ _ _ => rfl) fx_no)) (fx_cnd (fx_cnd (fun _ _ _ _ _ _ _ _ => rfl) fx_no) (fx_cnd (fun _ _ _ _ _ _ _ _ => rfl) fx_no))) (fx_cnd (fx_cnd (fx_cnd (fun _ _ _ _ _ _ _ _ => rfl) fx_no) (fx_cnd (fun _ _ _ _ _ _ _ _ => rfl) fx_no)) (fx_cnd (fx_cnd (fun _ _ _ _ _ _ _ _ => rfl) fx_no) (fx_cnd (fun _ _ _ _ _ _ _ _ => rfl) fx_no)))
theorem fk_112_9 (X : ez_X) (pc : Nat) : fx_ok X (ft_112_9 X pc) (ez_t112_9 pc) := by
  delta ft_112_9 ez_t112_9
  exact fx_cnd (fk_112_7 X pc) (fk_112_8 X pc)
theorem fk_112_10 (X : ez_X) (pc : Nat) : fx_ok X (ft_112_10 X pc) (ez_t112_10 pc) := by
  delta ft_112_10 ez_t112_10
  exact fx_cnd (fx_cnd (fx_cnd (fx_cnd (fun _ _ _ _ _ _ _ _ => rfl) fx_no) (fx_cnd (fun _ _ _ _ _ _ _ _ => rfl) fx_no)) (fx_cnd (fx_cnd (fun _ _ _ _ _ _ _ _ => rfl) fx_no) (fx_cnd (fun _ _ _ _ _ _ _ _ => rfl) fx_no))) (fx_cnd (fx_cnd (fx_cnd (fun _ _ _ _ _ _ _ _ => rfl) fx_no) (fx_cnd (fun _ _ _ _ _ _ _ _ => rfl) fx_no)) (fx_cnd (fx_cnd (fun _ _ _ _ _ _ _ _ => rfl) fx_no) (fx_cnd (fun _ _ _ _ _ _ _ _ => rfl) fx_no)))
theorem fk_112_11 (X : ez_X) (pc : Nat) : fx_ok X (ft_112_11 X pc) (ez_t112_11 pc) := by
  delta ft_112_11 ez_t112_11
  exact fx_cnd (fx_cnd (fx_cnd (fx_cnd (fun _ _ _ _ _ _ _ _ => rfl) fx_no) (fx_cnd (fun _ _ _ _ _ _ _ _ => rfl) fx_no)) (fx_cnd (fx_cnd (fun _ _ _ _ _ _ _ _ => rfl) fx_no) (fx_cnd (fun _ _ _ _ _ _ _ _ => rfl) fx_no))) (fx_cnd (fx_cnd (fx_cnd (fun _ _ _ _ _ _ _ _ => rfl) fx_no) (fx_cnd (fun _ _ _ _ _ _ _ _ => rfl) fx_no)) (fx_cnd (fx_cnd (fun _ _ _ _ _ _ _ _ => rfl) fx_no) (fx_cnd (fun _ _ _ _ _ _ _ _ => rfl) fx_no)))
theorem fk_112_12 (X : ez_X) (pc : Nat) : fx_ok X (ft_112_12 X pc) (ez_t112_12 pc) := by
  delta ft_112_12 ez_t112_12
  exact fx_cnd (fk_112_10 X pc) (fk_112_11 X pc)
theorem fk_112_13 (X : ez_X) (pc : Nat) : fx_ok X (ft_112_13 X pc) (ez_t112_13 pc) := by
  delta ft_112_13 ez_t112_13
  exact fx_cnd (fk_112_9 X pc) (fk_112_12 X pc)
theorem fk_112 (X : ez_X) (pc : Nat) : fx_ok X (ft_112 X pc) (ez_t112 pc) := by
  delta ft_112 ez_t112
  exact fx_cnd (fk_112_6 X pc) (fk_112_13 X pc)
theorem fk_113_0 (X : ez_X) (pc : Nat) : fx_ok X (ft_113_0 X pc) (ez_t113_0 pc) := by
  delta ft_113_0 ez_t113_0
  exact fx_cnd (fx_cnd (fx_cnd (fx_cnd (fun _ _ _ _ _ _ _ _ => rfl) fx_no) (fx_cnd (fun _ _ _ _ _ _ _ _ => rfl) fx_no)) (fx_cnd (fx_cnd (fun _ _ _ _ _ _ _ _ => rfl) fx_no) (fx_cnd (fun _ _ _ _ _ _ _ _ => rfl) fx_no))) (fx_cnd (fx_cnd (fx_cnd (fun _ _ _ _ _ _ _ _ => rfl) fx_no) (fx_cnd (fun _ _ _ _ _ _ _ _ => rfl) fx_no)) (fx_cnd (fx_cnd (fun _ _ _ _ _ _ _ _ => rfl) fx_no) (fx_cnd (fx_cnd (fun _ _ _ _ _ _ _ _ => rfl) fx_no) (fx_cnd (fun _ _ _ _ _ _ _ _ => rfl) fx_no))))
theorem fk_113_1 (X : ez_X) (pc : Nat) : fx_ok X (ft_113_1 X pc) (ez_t113_1 pc) := by
  delta ft_113_1 ez_t113_1
  exact fx_cnd (fx_cnd (fx_cnd (fx_cnd (fun _ _ _ _ _ _ _ _ => rfl) fx_no) (fx_cnd (fun _ _ _ _ _ _ _ _ => rfl) fx_no)) (fx_cnd (fx_cnd (fun _ _ _ _ _ _ _ _ => rfl) fx_no) (fx_cnd (fx_cnd (fun _ _ _ _ _ _ _ _ => rfl) fx_no) (fx_cnd (fun _ _ _ _ _ _ _ _ => rfl) fx_no)))) (fx_cnd (fx_cnd (fx_cnd (fun _ _ _ _ _ _ _ _ => rfl) fx_no) (fx_cnd (fun _ _ _ _ _ _ _ _ => rfl) fx_no)) (fx_cnd (fx_cnd (fun _ _ _ _ _ _ _ _ => rfl) fx_no) (fx_cnd (fx_cnd (fun _ _ _ _ _ _ _ _ => rfl) fx_no) (fx_cnd (fun _ _ _ _ _ _ _ _ => rfl) fx_no))))
theorem fk_113 (X : ez_X) (pc : Nat) : fx_ok X (ft_113 X pc) (ez_t113 pc) := by
  delta ft_113 ez_t113
  exact fx_cnd (fk_113_0 X pc) (fk_113_1 X pc)
theorem fk_114_0 (X : ez_X) (pc : Nat) : fx_ok X (ft_114_0 X pc) (ez_t114_0 pc) := by
  delta ft_114_0 ez_t114_0
  exact fx_cnd (fx_cnd (fx_cnd (fun _ _ _ _ _ _ _ _ => rfl) fx_no) (fx_cnd (fx_cnd (fun _ _ _ _ _ _ _ _ => rfl) fx_no) (fx_cnd (fun _ _ _ _ _ _ _ _ => rfl) fx_no))) (fx_cnd (fx_cnd (fun _ _ _ _ _ _ _ _ => rfl) fx_no) (fx_cnd (fx_cnd (fun _ _ _ _ _ _ _ _ => rfl) fx_no) (fx_cnd (fun _ _ _ _ _ _ _ _ => rfl) fx_no)))
theorem fk_114_1 (X : ez_X) (pc : Nat) : fx_ok X (ft_114_1 X pc) (ez_t114_1 pc) := by
  delta ft_114_1 ez_t114_1
  exact fx_cnd (fx_cnd (fx_cnd (fun _ _ _ _ _ _ _ _ => rfl) fx_no) (fx_cnd (fx_cnd (fun _ _ _ _ _ _ _ _ => rfl) fx_no) (fx_cnd (fun _ _ _ _ _ _ _ _ => rfl) fx_no))) (fx_cnd (fx_cnd (fx_cnd (fun _ _ _ _ _ _ _ _ => rfl) fx_no) (fx_cnd (fun _ _ _ _ _ _ _ _ => rfl) fx_no)) (fx_cnd (fx_cnd (fun _ _ _ _ _ _ _ _ => rfl) fx_no) (fx_cnd (fun _ _ _ _ _ _ _ _ => rfl) fx_no)))
theorem fk_114 (X : ez_X) (pc : Nat) : fx_ok X (ft_114 X pc) (ez_t114 pc) := by
  delta ft_114 ez_t114
  exact fx_cnd (fk_114_0 X pc) (fk_114_1 X pc)
theorem fk_115_0 (X : ez_X) (pc : Nat) : fx_ok X (ft_115_0 X pc) (ez_t115_0 pc) := by
  delta ft_115_0 ez_t115_0
  exact fx_cnd (fx_cnd (fx_cnd (fx_cnd (fun _ _ _ _ _ _ _ _ => rfl) fx_no) (fx_cnd (fun _ _ _ _ _ _ _ _ => rfl) fx_no)) (fx_cnd (fx_cnd (fun _ _ _ _ _ _ _ _ => rfl) fx_no) (fx_cnd (fun _ _ _ _ _ _ _ _ => rfl) fx_no))) (fx_cnd (fx_cnd (fx_cnd (fun _ _ _ _ _ _ _ _ => rfl) fx_no) (fx_cnd (fun _ _ _ _ _ _ _ _ => rfl) fx_no)) (fx_cnd (fx_cnd (fun _ _ _ _ _ _ _ _ => rfl) fx_no) (fx_cnd (fun _ _ _ _ _ _ _ _ => rfl) fx_no)))
theorem fk_115_1 (X : ez_X) (pc : Nat) : fx_ok X (ft_115_1 X pc) (ez_t115_1 pc) := by
  delta ft_115_1 ez_t115_1
  exact fx_cnd (fx_cnd (fx_cnd (fx_cnd (fun _ _ _ _ _ _ _ _ => rfl) fx_no) (fx_cnd (fun _ _ _ _ _ _ _ _ => rfl) fx_no)) (fx_cnd (fx_cnd (fun _ _ _ _ _ _ _ _ => rfl) fx_no) (fx_cnd (fun _ _ _ _ _ _ _ _ => rfl) fx_no))) (fx_cnd (fx_cnd (fx_cnd (fun _ _ _ _ _ _ _ _ => rfl) fx_no) (fx_cnd (fun _ _ _ _ _ _ _ _ => rfl) fx_no)) (fx_cnd (fx_cnd (fun _ _ _ _ _ _ _ _ => rfl) fx_no) (fx_cnd (fx_cnd (fun _ _ _ _ _ _ _ _ => rfl) fx_no) (fx_cnd (fun _ _ _ _ _ _ _ _ => rfl) fx_no))))
theorem fk_115_2 (X : ez_X) (pc : Nat) : fx_ok X (ft_115_2 X pc) (ez_t115_2 pc) := by
  delta ft_115_2 ez_t115_2
  exact fx_cnd (fk_115_0 X pc) (fk_115_1 X pc)
theorem fk_115_3 (X : ez_X) (pc : Nat) : fx_ok X (ft_115_3 X pc) (ez_t115_3 pc) := by
  delta ft_115_3 ez_t115_3
  exact fx_cnd (fx_cnd (fx_cnd (fx_cnd (fun _ _ _ _ _ _ _ _ => rfl) fx_no) (fx_cnd (fun _ _ _ _ _ _ _ _ => rfl) fx_no)) (fx_cnd (fx_cnd (fun _ _ _ _ _ _ _ _ => rfl) fx_no) (fx_cnd (fun _ _ _ _ _ _ _ _ => rfl) fx_no))) (fx_cnd (fx_cnd (fx_cnd (fun _ _ _ _ _ _ _ _ => rfl) fx_no) (fx_cnd (fun _ _ _ _ _ _ _ _ => rfl) fx_no)) (fx_cnd (fx_cnd (fun _ _ _ _ _ _ _ _ => rfl) fx_no) (fx_cnd (fx_cnd (fun _ _ _ _ _ _ _ _ => rfl) fx_no) (fx_cnd (fun _ _ _ _ _ _ _ _ => rfl) fx_no))))
theorem fk_115_4 (X : ez_X) (pc : Nat) : fx_ok X (ft_115_4 X pc) (ez_t115_4 pc) := by
  delta ft_115_4 ez_t115_4
  exact fx_cnd (fx_cnd (fx_cnd (fx_cnd (fun _ _ _ _ _ _ _ _ => rfl) fx_no) (fx_cnd (fun _ _ _ _ _ _ _ _ => rfl) fx_no)) (fx_cnd (fx_cnd (fun _ _ _ _ _ _ _ _ => rfl) fx_no) (fx_cnd (fun _ _ _ _ _ _ _ _ => rfl) fx_no))) (fx_cnd (fx_cnd (fx_cnd (fun _ _ _ _ _ _ _ _ => rfl) fx_no) (fx_cnd (fun _ _ _ _ _ _ _ _ => rfl) fx_no)) (fx_cnd (fx_cnd (fun _ _ _ _ _ _ _ _ => rfl) fx_no) (fx_cnd (fx_cnd (fun _ _ _ _ _ _ _ _ => rfl) fx_no) (fx_cnd (fun _ _ _ _ _ _ _ _ => rfl) fx_no))))
theorem fk_115_5 (X : ez_X) (pc : Nat) : fx_ok X (ft_115_5 X pc) (ez_t115_5 pc) := by
  delta ft_115_5 ez_t115_5
  exact fx_cnd (fk_115_3 X pc) (fk_115_4 X pc)
theorem fk_115 (X : ez_X) (pc : Nat) : fx_ok X (ft_115 X pc) (ez_t115 pc) := by
  delta ft_115 ez_t115
  exact fx_cnd (fk_115_2 X pc) (fk_115_5 X pc)
theorem fk_116_0 (X : ez_X) (pc : Nat) : fx_ok X (ft_116_0 X pc) (ez_t116_0 pc) := by
  delta ft_116_0 ez_t116_0
  exact fx_cnd (fx_cnd (fx_cnd (fun _ _ _ _ _ _ _ _ => rfl) fx_no) (fx_cnd (fx_cnd (fun _ _ _ _ _ _ _ _ => rfl) fx_no) (fx_cnd (fun _ _ _ _ _ _ _ _ => rfl) fx_no))) (fx_cnd (fx_cnd (fx_cnd (fun _ _ _ _ _ _ _ _ => rfl) fx_no) (fx_cnd (fun _ _ _ _ _ _ _ _ => rfl) fx_no)) (fx_cnd (fx_cnd (fun _ _ _ _ _ _ _ _ => rfl) fx_no) (fx_cnd (fun _ _ _ _ _ _ _ _ => rfl) fx_no)))
theorem fk_116_1 (X : ez_X) (pc : Nat) : fx_ok X (ft_116_1 X pc) (ez_t116_1 pc) := by
  delta ft_116_1 ez_t116_1
  exact fx_cnd (fx_cnd (fx_cnd (fun _ _ _ _ _ _ _ _ => rfl) fx_no) (fx_cnd (fx_cnd (fun _ _ _ _ _ _ _ _ => rfl) fx_no) (fx_cnd (fun _ _ _ _ _ _ _ _ => rfl) fx_no))) (fx_cnd (fx_cnd (fx_cnd (fun _ _ _ _ _ _ _ _ => rfl) fx_no) (fx_cnd (fun _ _ _ _ _ _ _ _ => rfl) fx_no)) (fx_cnd (fx_cnd (fun _ _ _ _ _ _ _ _ => rfl) fx_no) (fx_cnd (fun _ _ _ _ _ _ _ _ => rfl) fx_no)))
theorem fk_116_2 (X : ez_X) (pc : Nat) : fx_ok X (ft_116_2 X pc) (ez_t116_2 pc) := by
  delta ft_116_2 ez_t116_2
  exact fx_cnd (fk_116_0 X pc) (fk_116_1 X pc)
theorem fk_116_3 (X : ez_X) (pc : Nat) : fx_ok X (ft_116_3 X pc) (ez_t116_3 pc) := by
  delta ft_116_3 ez_t116_3
  exact fx_cnd (fx_cnd (fx_cnd (fun _ _ _ _ _ _ _ _ => rfl) fx_no) (fx_cnd (fx_cnd (fun _ _ _ _ _ _ _ _ => rfl) fx_no) (fx_cnd (fun _ _ _ _ _ _ _ _ => rfl) fx_no))) (fx_cnd (fx_cnd (fx_cnd (fun _ _ _ _ _ _ _ _ => rfl) fx_no) (fx_cnd (fun _ _ _ _ _ _ _ _ => rfl) fx_no)) (fx_cnd (fx_cnd (fun _ _ _ _ _ _ _ _ => rfl) fx_no) (fx_cnd (fun _ _ _ _ _ _ _ _ => rfl) fx_no)))
theorem fk_116_4 (X : ez_X) (pc : Nat) : fx_ok X (ft_116_4 X pc) (ez_t116_4 pc) := by
  delta ft_116_4 ez_t116_4
  exact fx_cnd (fx_cnd (fx_cnd (fx_cnd (fun _ _ _ _ _ _ _ _ => rfl) fx_no) (fx_cnd (fun _ _ _ _ _ _ _ _ => rfl) fx_no)) (fx_cnd (fx_cnd (fun _ _ _ _ _ _ _ _ => rfl) fx_no) (fx_cnd (fun _ _ _ _ _ _ _ _ => rfl) fx_no))) (fx_cnd (fx_cnd (fx_cnd (fun _ _ _ _ _ _ _ _ => rfl) fx_no) (fx_cnd (fun _ _ _ _ _ _ _ _ => rfl) fx_no)) (fx_cnd (fx_cnd (fun _ _ _ _ _ _ _ _ => rfl) fx_no) (fx_cnd (fun _ _ _ _ _ _ _ _ => rfl) fx_no)))
theorem fk_116_5 (X : ez_X) (pc : Nat) : fx_ok X (ft_116_5 X pc) (ez_t116_5 pc) := by
  delta ft_116_5 ez_t116_5
  exact fx_cnd (fk_116_3 X pc) (fk_116_4 X pc)
theorem fk_116_6 (X : ez_X) (pc : Nat) : fx_ok X (ft_116_6 X pc) (ez_t116_6 pc) := by
  delta ft_116_6 ez_t116_6
  exact fx_cnd (fk_116_2 X pc) (fk_116_5 X pc)
theorem fk_116_7 (X : ez_X) (pc : Nat) : fx_ok X (ft_116_7 X pc) (ez_t116_7 pc) := by
  delta ft_116_7 ez_t116_7
  exact fx_cnd (fx_cnd (fx_cnd (fun _ _ _ _ _ _ _ _ => rfl) fx_no) (fx_cnd (fx_cnd (fun _ _ _ _ _ _ _ _ => rfl) fx_no) (fx_cnd (fun _ _ _ _ _ _ _ _ => rfl) fx_no))) (fx_cnd (fx_cnd (fx_cnd (fun _ _ _ _ _ _ _ _ => rfl) fx_no) (fx_cnd (fun _ _ _ _ _ _ _ _ => rfl) fx_no)) (fx_cnd (fx_cnd (fun _ _ _ _ _ _ _ _ => rfl) fx_no) (fx_cnd (fun _ _ _ _ _ _ _ _ => rfl) fx_no)))
theorem fk_116_8 (X : ez_X) (pc : Nat) : fx_ok X (ft_116_8 X pc) (ez_t116_8 pc) := by
  delta ft_116_8 ez_t116_8
  exact fx_cnd (fx_cnd (fx_cnd (fx_cnd (fun _ _ _ _ _ _ _ _ => rfl) fx_no) (fx_cnd (fun _ _ _ _ _ _ _ _ => rfl) fx_no)) (fx_cnd (fx_cnd (fun _ _ _ _ _ _ _ _ => rfl) fx_no) (fx_cnd (fun _ _ _ _ _ _ _ _ => rfl) fx_no))) (fx_cnd (fx_cnd (fx_cnd (fun _ _ _ _ _ _ _ _ => rfl) fx_no) (fx_cnd (fun _ _ _ _ _ _ _ _ => rfl) fx_no)) (fx_cnd (fx_cnd (fun _ _ _ _ _ _ _ _ => rfl) fx_no) (fx_cnd (fun _ _ _ _ _ _ _ _ => rfl) fx_no)))
theorem fk_116_9 (X : ez_X) (pc : Nat) : fx_ok X (ft_116_9 X pc) (ez_t116_9 pc) := by
  delta ft_116_9 ez_t116_9
  exact fx_cnd (fk_116_7 X pc) (fk_116_8 X pc)
theorem fk_116_10 (X : ez_X) (pc : Nat) : fx_ok X (ft_116_10 X pc) (ez_t116_10 pc) := by
  delta ft_116_10 ez_t116_10
  exact fx_cnd (fx_cnd (fx_cnd (fun _ _ _ _ _ _ _ _ => rfl) fx_no) (fx_cnd (fx_cnd (fun _ _ _ _ _ _ _ _ => rfl) fx_no) (fx_cnd (fun _ _ _ _ _ _ _ _ => rfl) fx_no))) (fx_cnd (fx_cnd (fx_cnd (fun _ _ _ _ _ _ _ _ => rfl) fx_no) (fx_cnd (fun _ _ _ _ _ _ _ _ => rfl) fx_no)) (fx_cnd (fx_cnd (fun _ _ _ _ _ _ _ _ => rfl) fx_no) (fx_cnd (fun _ _ _ _ _ _ _ _ => rfl) fx_no)))
theorem fk_116_11 (X : ez_X) (pc : Nat) : fx_ok X (ft_116_11 X pc) (ez_t116_11 pc) := by
  delta ft_116_11 ez_t116_11
  exact fx_cnd (fx_cnd (fx_cnd (fx_cnd (fun _ _ _ _ _ _ _ _ => rfl) fx_no) (fx_cnd (fun _ _ _ _ _ _ _ _ => rfl) fx_no)) (fx_cnd (fx_cnd (fun _ _ _ _ _ _ _ _ => rfl) fx_no) (fx_cnd (fun _ _ _ _ _ _ _ _ => rfl) fx_no))) (fx_cnd (fx_cnd (fx_cnd (fun _ _ _ _ _ _ _ _ => rfl) fx_no) (fx_cnd (fun _ _ _ _ _ _ _ _ => rfl) fx_no)) (fx_cnd (fx_cnd (fun _ _ _ _ _ _ _ _ => rfl) fx_no) (fx_cnd (fun _ _ _ _ _ _ _ _ => rfl) fx_no)))
theorem fk_116_12 (X : ez_X) (pc : Nat) : fx_ok X (ft_116_12 X pc) (ez_t116_12 pc) := by
  delta ft_116_12 ez_t116_12
  exact fx_cnd (fk_116_10 X pc) (fk_116_11 X pc)
theorem fk_116_13 (X : ez_X) (pc : Nat) : fx_ok X (ft_116_13 X pc) (ez_t116_13 pc) := by
  delta ft_116_13 ez_t116_13
  exact fx_cnd (fk_116_9 X pc) (fk_116_12 X pc)
theorem fk_116 (X : ez_X) (pc : Nat) : fx_ok X (ft_116 X pc) (ez_t116 pc) := by
  delta ft_116 ez_t116
  exact fx_cnd (fk_116_6 X pc) (fk_116_13 X pc)
theorem fk_117 (X : ez_X) (pc : Nat) : fx_ok X (ft_117 X pc) (ez_t117 pc) := by
  delta ft_117 ez_t117
  exact fx_cnd (fx_cnd (fx_cnd (fun _ _ _ _ _ _ _ _ => rfl) fx_no) (fx_cnd (fun _ _ _ _ _ _ _ _ => rfl) fx_no)) (fx_cnd (fx_cnd (fun _ _ _ _ _ _ _ _ => rfl) fx_no) (fx_cnd (fun _ _ _ _ _ _ _ _ => rfl) fx_no))
theorem fk_118_0 (X : ez_X) (pc : Nat) : fx_ok X (ft_118_0 X pc) (ez_t118_0 pc) := by
  delta ft_118_0 ez_t118_0
  exact fx_cnd (fx_cnd (fx_cnd (fx_cnd (fun _ _ _ _ _ _ _ _ => rfl) fx_no) (fx_cnd (fun _ _ _ _ _ _ _ _ => rfl) fx_no)) (fx_cnd (fx_cnd (fun _ _ _ _ _ _ _ _ => rfl) fx_no) (fx_cnd (fun _ _ _ _ _ _ _ _ => rfl) fx_no))) (fx_cnd (fx_cnd (fx_cnd (fun _ _ _ _ _ _ _ _ => rfl) fx_no) (fx_cnd (fun _ _ _ _ _ _ _ _ => rfl) fx_no)) (fx_cnd (fx_cnd (fun _ _ _ _ _ _ _ _ => rfl) fx_no) (fx_cnd (fun _ _ _ _ _ _ _ _ => rfl) fx_no)))
theorem fk_118_1 (X : ez_X) (pc : Nat) : fx_ok X (ft_118_1 X pc) (ez_t118_1 pc) := by
  delta ft_118_1 ez_t118_1
  exact fx_cnd (fx_cnd (fx_cnd (fx_cnd (fun _ _ _ _ _ _ _ _ => rfl) fx_no) (fx_cnd (fun _ _ _ _ _ _ _ _ => rfl) fx_no)) (fx_cnd (fx_cnd (fun _ _ _ _ _ _ _ _ => rfl) fx_no) (fx_cnd (fun _ _ _ _ _ _ _ _ => rfl) fx_no))) (fx_cnd (fx_cnd (fx_cnd (fun _ _ _ _ _ _ _ _ => rfl) fx_no) (fx_cnd (fun _ _ _ _ _ _ _ _ => rfl) fx_no)) (fx_cnd (fx_cnd (fun _ _ _ _ _ _ _ _ => rfl) fx_no) (fx_cnd (fun _ _ _ _ _ _ _ _ => rfl) fx_no)))
theorem fk_118_2 (X : ez_X) (pc : Nat) : fx_ok X (ft_118_2 X pc) (ez_t118_2 pc) := by
  delta ft_118_2 ez_t118_2
  exact fx_cnd (fk_118_0 X pc) (fk_118_1 X pc)
theorem fk_118_3 (X : ez_X) (pc : Nat) : fx_ok X (ft_118_3 X pc) (ez_t118_3 pc) := by
  delta ft_118_3 ez_t118_3
  exact fx_cnd (fx_cnd (fx_cnd (fx_cnd (fun _ _ _ _ _ _ _ _ => rfl) fx_no) (fx_cnd (fun _ _ _ _ _ _ _ _ => rfl) fx_no)) (fx_cnd (fx_cnd (fun _ _ _ _ _ _ _ _ => rfl) fx_no) (fx_cnd (fun _ _ _ _ _ _ _ _ => rfl) fx_no))) (fx_cnd (fx_cnd (fx_cnd (fun _ _ _ _ _ _ _ _ => rfl) fx_no) (fx_cnd (fun _ _ _ _ _ _ _ _ => rfl) fx_no)) (fx_cnd (fx_cnd (fun _ _ _ _ _ _ _ _ => rfl) fx_no) (fx_cnd (fun _ _ _ _ _ _ _ _ => rfl) fx_no)))
theorem fk_118_4 (X : ez_X) (pc : Nat) : fx_ok X (ft_118_4 X pc) (ez_t118_4 pc) := by
  delta ft_118_4 ez_t118_4
  exact fx_cnd (fx_cnd (fx_cnd (fx_cnd (fun _ _ _ _ _ _ _ _ => rfl) fx_no) (fx_cnd (fun _ _ _ _ _ _ _ _ => rfl) fx_no)) (fx_cnd (fx_cnd (fun _ _ _ _ _ _ _ _ => rfl) fx_no) (fx_cnd (fun _ _ _ _ _ _ _ _ => rfl) fx_no))) (fx_cnd (fx_cnd (fx_cnd (fun _ _ _ _ _ _ _ _ => rfl) fx_no) (fx_cnd (fun _ _ _ _ _ _ _ _ => rfl) fx_no)) (fx_cnd (fx_cnd (fun _ _ _ _ _ _ _ _ => rfl) fx_no) (fx_cnd (fun _ _ _ _ _ _ _ _ => rfl) fx_no)))
theorem fk_118_5 (X : ez_X) (pc : Nat) : fx_ok X (ft_118_5 X pc) (ez_t118_5 pc) := by
  delta ft_118_5 ez_t118_5
  exact fx_cnd (fk_118_3 X pc) (fk_118_4 X pc)
theorem fk_118 (X : ez_X) (pc : Nat) : fx_ok X (ft_118 X pc) (ez_t118 pc) := by
  delta ft_118 ez_t118
  exact fx_cnd (fk_118_2 X pc) (fk_118_5 X pc)
theorem fk_119_0 (X : ez_X) (pc : Nat) : fx_ok X (ft_119_0 X pc) (ez_t119_0 pc) := by
  delta ft_119_0 ez_t119_0
  exact fx_cnd (fx_cnd (fx_cnd (fx_cnd (fun _ _ _ _ _ _ _ _ => rfl) fx_no) (fx_cnd (fx_cnd (fun _ _ _ _ _ _ _ _ => rfl) fx_no) (fx_cnd (fun _ _ _ _ _ _ _ _ => rfl) fx_no))) (fx_cnd (fx_cnd (fun _ _ _ _ _ _ _ _ => rfl) fx_no) (fx_cnd (fx_cnd (fun _ _ _ _ _ _ _ _ => rfl) fx_no) (fx_cnd (fun _ _ _ _ _ _ _ _ => rfl) fx_no)))) (fx_cnd (fx_cnd (fx_cnd (fun _ _ _ _ _ _ _ _ => rfl) fx_no) (fx_cnd (fx_cnd (fun _ _ _ _ _ _ _ _ => rfl) fx_no) (fx_cnd (fun _ _ _ _ _ _ _ _ => rfl) fx_no))) (fx_cnd (fx_cnd (fun _ _ _ _ _ _ _ _ => rfl) fx_no) (fx_cnd (fx_cnd (fun _ _ _ _ _ _ _ _ => rfl) fx_no) (fx_cnd (fun _ _ _ _ _ _ _ _ => rfl) fx_no))))
theorem fk_119_1 (X : ez_X) (pc : Nat) : fx_ok X (ft_119_1 X pc) (ez_t119_1 pc) := by
  delta ft_119_1 ez_t119_1
  exact fx_cnd (fx_cnd (fx_cnd (fun _ _ _ _ _ _ _ _ => rfl) fx_no) (fx_cnd (fx_cnd (fun _ _ _ _ _ _ _ _ => rfl) fx_no) (fx_cnd (fun _ _ _ _ _ _ _ _ => rfl) fx_no))) (fx_cnd (fx_cnd (fun _ _ _ _ _ _ _ _ => rfl) fx_no) (fx_cnd (fx_cnd (fun _ _ _ _ _ _ _ _ => rfl) fx_no) (fx_cnd (fun _ _ _ _ _ _ _ _ => rfl) fx_no)))
theorem fk_119_2 (X : ez_X) (pc : Nat) : fx_ok X (ft_119_2 X pc) (ez_t119_2 pc) := by
  delta ft_119_2 ez_t119_2
  exact fx_cnd (fx_cnd (fx_cnd (fun _ _ _ _ _ _ _ _ => rfl) fx_no) (fx_cnd (fx_cnd (fun _ _ _ _ _ _ _ _ => rfl) fx_no) (fx_cnd (fun _ _ _ _ _ _ _ _ => rfl) fx_no))) (fx_cnd (fx_cnd (fx_cnd (fun _ _ _ _ _ _ _ _ => rfl) fx_no) (fx_cnd (fun _ _ _ _ _ _ _ _ => rfl) fx_no)) (fx_cnd (fx_cnd (fun _ _ _ _ _ _ _ _ => rfl) fx_no) (fx_cnd (fun _ _ _ _ _ _ _ _ => rfl) fx_no)))
theorem fk_119_3 (X : ez_X) (pc : Nat) : fx_ok X (ft_119_3 X pc) (ez_t119_3 pc) := by
  delta ft_119_3 ez_t119_3
  exact fx_cnd (fk_119_1 X pc) (fk_119_2 X pc)
theorem fk_119_4 (X : ez_X) (pc : Nat) : fx_ok X (ft_119_4 X pc) (ez_t119_4 pc) := by
  delta ft_119_4 ez_t119_4
  exact fx_cnd (fk_119_0 X pc) (fk_119_3 X pc)
theorem fk_119_5 (X : ez_X) (pc : Nat) : fx_ok X (ft_119_5 X pc) (ez_t119_5 pc) := by
  delta ft_119_5 ez_t119_5
  exact fx_cnd (fx_cnd (fx_cnd (fun _ _ _ _ _ _ _ _ => rfl) fx_no) (fx_cnd (fx_cnd (fun _ _ _ _ _ _ _ _ => rfl) fx_no) (fx_cnd (fun _ _ _ _ _ _ _ _ => rfl) fx_no))) (fx_cnd (fx_cnd (fun _ _ _ _ _ _ _ _ => rfl) fx_no) (fx_cnd (fx_cnd (fun _ _ _ _ _ _ _ _ => rfl) fx_no) (fx_cnd (fun _ _ _ _ _ _ _ _ => rfl) fx_no)))
theorem fk_119_6 (X : ez_X) (pc : Nat) : fx_ok X (ft_119_6 X pc) (ez_t119_6 pc) := by
  delta ft_119_6 ez_t119_6
  exact fx_cnd (fx_cnd (fx_cnd (fun _ _ _ _ _ _ _ _ => rfl) fx_no) (fx_cnd (fx_cnd (fun _ _ _ _ _ _ _ _ => rfl) fx_no) (fx_cnd (fun _ _ _ _ _ _ _ _ => rfl) fx_no))) (fx_cnd (fx_cnd (fx_cnd (fun _ _ _ _ _ _ _ _ => rfl) fx_no) (fx_cnd (fun _ _ _ _ _ _ _ _ => rfl) fx_no)) (fx_cnd (fx_cnd (fun _ _ _ _ _ _ _ _ => rfl) fx_no) (fx_cnd (fun _ _ _ _ _ _ _ _ => rfl) fx_no)))
theorem fk_119_7 (X : ez_X) (pc : Nat) : fx_ok X (ft_119_7 X pc) (ez_t119_7 pc) := by
  delta ft_119_7 ez_t119_7
  exact fx_cnd (fk_119_5 X pc) (fk_119_6 X pc)
theorem fk_119_8 (X : ez_X) (pc : Nat) : fx_ok X (ft_119_8 X pc) (ez_t119_8 pc) := by
  delta ft_119_8 ez_t119_8
  exact fx_cnd (fx_cnd (fx_cnd (fun _ _ _ _ _ _ _ _ => rfl) fx_no) (fx_cnd (fx_cnd (fun _ _ _ _ _ _ _ _ => rfl) fx_no) (fx_cnd (fun _ _ _ _ _ _ _ _ => rfl) fx_no))) (fx_cnd (fx_cnd (fun _ _ _ _ _ _ _ _ => rfl) fx_no) (fx_cnd (fx_cnd (fun _ _ _ _ _ _ _ _ => rfl) fx_no) (fx_cnd (fun _ _ _ _ _ _ _ _ => rfl) fx_no)))
theorem fk_119_9 (X : ez_X) (pc : Nat) : fx_ok X (ft_119_9 X pc) (ez_t119_9 pc) := by
  delta ft_119_9 ez_t119_9
  exact fx_cnd (fx_cnd (fx_cnd (fun _ _ _ _ _ _ _ _ => rfl) fx_no) (fx_cnd (fx_cnd (fun _ _ _ _ _ _ _ _ => rfl) fx_no) (fx_cnd (fun _ _ _ _ _ _ _ _ => rfl) fx_no))) (fx_cnd (fx_cnd (fx_cnd (fun _ _ _ _ _ _ _ _ => rfl) fx_no) (fx_cnd (fun _ _ _ _ _ _ _ _ => rfl) fx_no)) (fx_cnd (fx_cnd (fun _ _ _ _ _ _ _ _ => rfl) fx_no) (fx_cnd (fun _ _ _ _ _ _ _ _ => rfl) fx_no)))
theorem fk_119_10 (X : ez_X) (pc : Nat) : fx_ok X (ft_119_10 X pc) (ez_t119_10 pc) := by
  delta ft_119_10 ez_t119_10
  exact fx_cnd (fk_119_8 X pc) (fk_119_9 X pc)
theorem fk_119_11 (X : ez_X) (pc : Nat) : fx_ok X (ft_119_11 X pc) (ez_t119_11 pc) := by
  delta ft_119_11 ez_t119_11
  exact fx_cnd (fk_119_7 X pc) (fk_119_10 X pc)
theorem fk_119 (X : ez_X) (pc : Nat) : fx_ok X (ft_119 X pc) (ez_t119 pc) := by
  delta ft_119 ez_t119
  exact fx_cnd (fk_119_4 X pc) (fk_119_11 X pc)
theorem fk_120 (X : ez_X) (pc : Nat) : fx_ok X (ft_120 X pc) (ez_t120 pc) := by
  delta ft_120 ez_t120
  exact fx_cnd (fx_cnd (fx_cnd (fun _ _ _ _ _ _ _ _ => rfl) fx_no) (fx_cnd (fx_cnd (fun _ _ _ _ _ _ _ _ => rfl) fx_no) (fx_cnd (fun _ _ _ _ _ _ _ _ => rfl) fx_no))) (fx_cnd (fx_cnd (fx_cnd (fun _ _ _ _ _ _ _ _ => rfl) fx_no) (fx_cnd (fun _ _ _ _ _ _ _ _ => rfl) fx_no)) (fx_cnd (fx_cnd (fun _ _ _ _ _ _ _ _ => rfl) fx_no) (fx_cnd (fun _ _ _ _ _ _ _ _ => rfl) fx_no)))
theorem fk_121_0 (X : ez_X) (pc : Nat) : fx_ok X (ft_121_0 X pc) (ez_t121_0 pc) := by
  delta ft_121_0 ez_t121_0
  exact fx_cnd (fx_cnd (fx_cnd (fx_cnd (fun _ _ _ _ _ _ _ _ => rfl) fx_no) (fx_cnd (fun _ _ _ _ _ _ _ _ => rfl) fx_no)) (fx_cnd (fx_cnd (fun _ _ _ _ _ _ _ _ => rfl) fx_no) (fx_cnd (fun _ _ _ _ _ _ _ _ => rfl) fx_no))) (fx_cnd (fx_cnd (fx_cnd (fun _ _ _ _ _ _ _ _ => rfl) fx_no) (fx_cnd (fun _ _ _ _ _ _ _ _ => rfl) fx_no)) (fx_cnd (fx_cnd (fun _ _ _ _ _ _ _ _ => rfl) fx_no) (fx_cnd (fun _ _ _ _ _ _ _ _ => rfl) fx_no)))
theorem fk_121_1 (X : ez_X) (pc : Nat) : fx_ok X (ft_121_1 X pc) (ez_t121_1 pc) := by
  delta ft_121_1 ez_t121_1
  exact fx_cnd (fx_cnd (fx_cnd (fx_cnd (fun _ _ _ _ _ _ _ _ => rfl) fx_no) (fx_cnd (fun _ _ _ _ _ _ _ _ => rfl) fx_no)) (fx_cnd (fx_cnd (fun _ _ _ _ _ _ _ _ => rfl) fx_no) (fx_cnd (fun _ _ _ _ _ _ _ _ => rfl) fx_no))) (fx_cnd (fx_cnd (fx_cnd (fun _ _ _ _ _ _ _ _ => rfl) fx_no) (fx_cnd (fun _ _ _ _ _ _ _ _ => rfl) fx_no)) (fx_cnd (fx_cnd (fun _ _ _ _ _ _ _ _ => rfl) fx_no) (fx_cnd (fx_cnd (fun _ _ _ _ _ _ _ _ => rfl) fx_no) (fx_cnd (fun _ _ _ _ _ _ _ _ => rfl) fx_no))))
theorem fk_121 (X : ez_X) (pc : Nat) : fx_ok X (ft_121 X pc) (ez_t121 pc) := by
  delta ft_121 ez_t121
  exact fx_cnd (fk_121_0 X pc) (fk_121_1 X pc)
theorem fk_122 (X : ez_X) (pc : Nat) : fx_ok X (ft_122 X pc) (ez_t122 pc) := by
  delta ft_122 ez_t122
  exact fx_cnd (fx_cnd (fx_cnd (fx_cnd (fun _ _ _ _ _ _ _ _ => rfl) fx_no) (fx_cnd (fun _ _ _ _ _ _ _ _ => rfl) fx_no)) (fx_cnd (fx_cnd (fun _ _ _ _ _ _ _ _ => rfl) fx_no) (fx_cnd (fx_cnd (fun _ _ _ _ _ _ _ _ => rfl) fx_no) (fx_cnd (fun _ _ _ _ _ _ _ _ => rfl) fx_no)))) (fx_cnd (fx_cnd (fx_cnd (fun _ _ _ _ _ _ _ _ => rfl) fx_no) (fx_cnd (fun _ _ _ _ _ _ _ _ => rfl) fx_no)) (fx_cnd (fx_cnd (fun _ _ _ _ _ _ _ _ => rfl) fx_no) (fx_cnd (fx_cnd (fun _ _ _ _ _ _ _ _ => rfl) fx_no) (fx_cnd (fun _ _ _ _ _ _ _ _ => rfl) fx_no))))
theorem fk_123_0 (X : ez_X) (pc : Nat) : fx_ok X (ft_123_0 X pc) (ez_t123_0 pc) := by
  delta ft_123_0 ez_t123_0
  exact fx_cnd (fx_cnd (fx_cnd (fun _ _ _ _ _ _ _ _ => rfl) fx_no) (fx_cnd (fx_cnd (fun _ _ _ _ _ _ _ _ => rfl) fx_no) (fx_cnd (fun _ _ _ _ _ _ _ _ => rfl) fx_no))) (fx_cnd (fx_cnd (fx_cnd (fun _ _ _ _ _ _ _ _ => rfl) fx_no) (fx_cnd (fun _ _ _ _ _ _ _ _ => rfl) fx_no)) (fx_cnd (fx_cnd (fun _ _ _ _ _ _ _ _ => rfl) fx_no) (fx_cnd (fun _ _ _ _ _ _ _ _ => rfl) fx_no)))
theorem fk_123_1 (X : ez_X) (pc : Nat) : fx_ok X (ft_123_1 X pc) (ez_t123_1 pc) := by
  delta ft_123_1 ez_t123_1
  exact fx_cnd (fx_cnd (fx_cnd (fun _ _ _ _ _ _ _ _ => rfl) fx_no) (fx_cnd (fx_cnd (fun _ _ _ _ _ _ _ _ => rfl) fx_no) (fx_cnd (fun _ _ _ _ _ _ _ _ => rfl) fx_no))) (fx_cnd (fx_cnd (fx_cnd (fun _ _ _ _ _ _ _ _ => rfl) fx_no) (fx_cnd (fun _ _ _ _ _ _ _ _ => rfl) fx_no)) (fx_cnd (fx_cnd (fun _ _ _ _ _ _ _ _ => rfl) fx_no) (fx_cnd (fun _ _ _ _ _ _ _ _ => rfl) fx_no)))
theorem fk_123 (X : ez_X) (pc : Nat) : fx_ok X (ft_123 X pc) (ez_t123 pc) := by
  delta ft_123 ez_t123
  exact fx_cnd (fk_123_0 X pc) (fk_123_1 X pc)
theorem fk_124 (X : ez_X) (pc : Nat) : fx_ok X (ft_124 X pc) (ez_t124 pc) := by
  delta ft_124 ez_t124
  exact fx_cnd (fx_cnd (fx_cnd (fun _ _ _ _ _ _ _ _ => rfl) fx_no) (fx_cnd (fun _ _ _ _ _ _ _ _ => rfl) fx_no)) (fx_cnd (fx_cnd (fun _ _ _ _ _ _ _ _ => rfl) fx_no) (fx_cnd (fx_cnd (fun _ _ _ _ _ _ _ _ => rfl) fx_no) (fx_cnd (fun _ _ _ _ _ _ _ _ => rfl) fx_no)))
theorem fk_125_0 (X : ez_X) (pc : Nat) : fx_ok X (ft_125_0 X pc) (ez_t125_0 pc) := by
  delta ft_125_0 ez_t125_0
  exact fx_cnd (fx_cnd (fx_cnd (fx_cnd (fun _ _ _ _ _ _ _ _ => rfl) fx_no) (fx_cnd (fx_cnd (fun _ _ _ _ _ _ _ _ => rfl) fx_no) (fx_cnd (fun _ _ _ _ _ _ _ _ => rfl) fx_no))) (fx_cnd (fx_cnd (fun _ _ _ _ _ _ _ _ => rfl) fx_no) (fx_cnd (fx_cnd (fun _ _ _ _ _ _ _ _ => rfl) fx_no) (fx_cnd (fun _ _ _ _ _ _ _ _ => rfl) fx_no)))) (fx_cnd (fx_cnd (fx_cnd (fun _ _ _ _ _ _ _ _ => rfl) fx_no) (fx_cnd (fx_cnd (fun _ _ _ _ _ _ _ _ => rfl) fx_no) (fx_cnd (fun _ _ _ _ _ _ _ _ => rfl) fx_no))) (fx_cnd (fx_cnd (fun _ _ _ _ _ _ _ _ => rfl) fx_no) (fx_cnd (fx_cnd (fun _ _ _ _ _ _ _ _ => rfl) fx_no) (fx_cnd (fun _ _ _ _ _ _ _ _ => rfl) fx_no))))
theorem fk_125_1 (X : ez_X) (pc : Nat) : fx_ok X (ft_125_1 X pc) (ez_t125_1 pc) := by
  delta ft_125_1 ez_t125_1
  exact fx_cnd (fx_cnd (fx_cnd (fun _ _ _ _ _ _ _ _ => rfl) fx_no) (fx_cnd (fx_cnd (fun _ _ _ _ _ _ _ _ => rfl) fx_no) (fx_cnd (fun _ _ _ _ _ _ _ _ => rfl) fx_no))) (fx_cnd (fx_cnd (fun _ _ _ _ _ _ _ _ => rfl) fx_no) (fx_cnd (fx_cnd (fun _ _ _ _ _ _ _ _ => rfl) fx_no) (fx_cnd (fun _ _ _ _ _ _ _ _ => rfl) fx_no)))
theorem fk_125_2 (X : ez_X) (pc : Nat) : fx_ok X (ft_125_2 X pc) (ez_t125_2 pc) := by
  delta ft_125_2 ez_t125_2
  exact fx_cnd (fx_cnd (fx_cnd (fun _ _ _ _ _ _ _ _ => rfl) fx_no) (fx_cnd (fx_cnd (fun _ _ _ _ _ _ _ _ => rfl) fx_no) (fx_cnd (fun _ _ _ _ _ _ _ _ => rfl) fx_no))) (fx_cnd (fx_cnd (fx_cnd (fun _ _ _ _ _ _ _ _ => rfl) fx_no) (fx_cnd (fun _ _ _ _ _ _ _ _ => rfl) fx_no)) (fx_cnd (fx_cnd (fun _ _ _ _ _ _ _ _ => rfl) fx_no) (fx_cnd (fun _ _ _ _ _ _ _ _ => rfl) fx_no)))
theorem fk_125_3 (X : ez_X) (pc : Nat) : fx_ok X (ft_125_3 X pc) (ez_t125_3 pc) := by
  delta ft_125_3 ez_t125_3
  exact fx_cnd (fk_125_1 X pc) (fk_125_2 X pc)
theorem fk_125 (X : ez_X) (pc : Nat) : fx_ok X (ft_125 X pc) (ez_t125 pc) := by
  delta ft_125 ez_t125
  exact fx_cnd (fk_125_0 X pc) (fk_125_3 X pc)
theorem fk_126_0 (X : ez_X) (pc : Nat) : fx_ok X (ft_126_0 X pc) (ez_t126_0 pc) := by
  delta ft_126_0 ez_t126_0
  exact fx_cnd (fx_cnd (fx_cnd (fx_cnd (fun _ _ _ _ _ _ _ _ => rfl) fx_no) (fx_cnd (fun _ _ _ _ _ _ _ _ => rfl) fx_no)) (fx_cnd (fx_cnd (fun _ _ _ _ _ _ _ _ => rfl) fx_no) (fx_cnd (fx_cnd (fun _ _ _ _ _ _ _ _ => rfl) fx_no) (fx_cnd (fun _ _ _ _ _ _ _ _ => rfl) fx_no)))) (fx_cnd (fx_cnd (fx_cnd (fun _ _ _ _ _ _ _ _ => rfl) fx_no) (fx_cnd (fx_cnd (fun _ _ _ _ _ _ _ _ => rfl) fx_no) (fx_cnd (fun _ _ _ _ _ _ _ _ => rfl) fx_no))) (fx_cnd (fx_cnd (fun _ _ _ _ _ _ _ _ => rfl) fx_no) (fx_cnd (fx_cnd (fun _ _ _ _ _ _ _ _ => rfl) fx_no) (fx_cnd (fun _ _ _ _ _ _ _ _ => rfl) fx_no))))
theorem fk_126_1 (X : ez_X) (pc : Nat) : fx_ok X (ft_126_1 X pc) (ez_t126_1 pc) := by
  delta ft_126_1 ez_t126_1
  exact fx_cnd (fx_cnd (fx_cnd (fx_cnd (fun _ _ _ _ _ _ _ _ => rfl) fx_no) (fx_cnd (fx_cnd (fun _ _ _ _ _ _ _ _ => rfl) fx_no) (fx_cnd (fun _ _ _ _ _ _ _ _ => rfl) fx_no))) (fx_cnd (fx_cnd (fun _ _ _ _ _ _ _ _ => rfl) fx_no) (fx_cnd (fx_cnd (fun _ _ _ _ _ _ _ _ => rfl) fx_no) (fx_cnd (fun _ _ _ _ _ _ _ _ => rfl) fx_no)))) (fx_cnd (fx_cnd (fx_cnd (fun _ _ _ _ _ _ _ _ => rfl) fx_no) (fx_cnd (fx_cnd (fun _ _ _ _ _ _ _ _ => rfl) fx_no) (fx_cnd (fun _ _ _ _ _ _ _ _ => rfl) fx_no))) (fx_cnd (fx_cnd (fun _ _ _ _ _ _ _ _ => rfl) fx_no) (fx_cnd (fx_cnd (fun _ _ _ _ _ _ _ _ => rfl) fx_no) (fx_cnd (fun _ _ _ _ _ _ _ _ => rfl) fx_no))))
theorem fk_126 (X : ez_X) (pc : Nat) : fx_ok X (ft_126 X pc) (ez_t126 pc) := by
  delta ft_126 ez_t126
  exact fx_cnd (fk_126_0 X pc) (fk_126_1 X pc)
theorem fk_127_0 (X : ez_X) (pc : Nat) : fx_ok X (ft_127_0 X pc) (ez_t127_0 pc) := by
  delta ft_127_0 ez_t127_0
  exact fx_cnd (fx_cnd (fx_cnd (fx_cnd (fun _ _ _ _ _ _ _ _ => rfl) fx_no) (fx_cnd (fx_cnd (fun _ _ _ _ _ _ _ _ => rfl) fx_no) (fx_cnd (fun _ _ _ _ _ _ _ _ => rfl) fx_no))) (fx_cnd (fx_cnd (fun _ _ _ _ _ _ _ _ => rfl) fx_no) (fx_cnd (fx_cnd (fun _ _ _ _ _ _ _ _ => rfl) fx_no) (fx_cnd (fun _ _ _ _ _ _ _ _ => rfl) fx_no)))) (fx_cnd (fx_cnd (fx_cnd (fun _ _ _ _ _ _ _ _ => rfl) fx_no) (fx_cnd (fx_cnd (fun _ _ _ _ _ _ _ _ => rfl) fx_no) (fx_cnd (fun _ _ _ _ _ _ _ _ => rfl) fx_no))) (fx_cnd (fx_cnd (fun _ _ _ _ _ _ _ _ => rfl) fx_no) (fx_cnd (fx_cnd (fun _ _ _ _ _ _ _ _ => rfl) fx_no) (fx_cnd (fun _ _ _ _ _ _ _ _ => rfl) fx_no))))
theorem fk_127_1 (X : ez_X) (pc : Nat) : fx_ok X (ft_127_1 X pc) (ez_t127_1 pc) := by
  delta ft_127_1 ez_t127_1
  exact fx_cnd (fx_cnd (fx_cnd (fun _ _ _ _ _ _ _ _ => rfl) fx_no) (fx_cnd (fx_cnd (fun _ _ _ _ _ _ _ _ => rfl) fx_no) (fx_cnd (fun _ _ _ _ _ _ _ _ => rfl) fx_no))) (fx_cnd (fx_cnd (fun _ _ _ _ _ _ _ _ => rfl) fx_no) (fx_cnd (fx_cnd (fun _ _ _ _ _ _ _ _ => rfl) fx_no) (fx_cnd (fun _ _ _ _ _ _ _ _ => rfl) fx_no)))
theorem fk_127_2 (X : ez_X) (pc : Nat) : fx_ok X (ft_127_2 X pc) (ez_t127_2 pc) := by
  delta ft_127_2 ez_t127_2
  exact fx_cnd (fx_cnd (fx_cnd (fun _ _ _ _ _ _ _ _ => rfl) fx_no) (fx_cnd (fx_cnd (fun _ _ _ _ _ _ _ _ => rfl) fx_no) (fx_cnd (fun _ _ _ _ _ _ _ _ => rfl) fx_no))) (fx_cnd (fx_cnd (fx_cnd (fun _ _ _ _ _ _ _ _ => rfl) fx_no) (fx_cnd (fun _ _ _ _ _ _ _ _ => rfl) fx_no)) (fx_cnd (fx_cnd (fun _ _ _ _ _ _ _ _ => rfl) fx_no) (fx_cnd (fun _ _ _ _ _ _ _ _ => rfl) fx_no)))
theorem fk_127_3 (X : ez_X) (pc : Nat) : fx_ok X (ft_127_3 X pc) (ez_t127_3 pc) := by
  delta ft_127_3 ez_t127_3
  exact fx_cnd (fk_127_1 X pc) (fk_127_2 X pc)
theorem fk_127 (X : ez_X) (pc : Nat) : fx_ok X (ft_127 X pc) (ez_t127 pc) := by
  delta ft_127 ez_t127
  exact fx_cnd (fk_127_0 X pc) (fk_127_3 X pc)
theorem fk_128_0 (X : ez_X) (pc : Nat) : fx_ok X (ft_128_0 X pc) (ez_t128_0 pc) := by
  delta ft_128_0 ez_t128_0
  exact fx_cnd (fx_cnd (fx_cnd (fx_cnd (fun _ _ _ _ _ _ _ _ => rfl) fx_no) (fx_cnd (fun _ _ _ _ _ _ _ _ => rfl) fx_no)) (fx_cnd (fx_cnd (fun _ _ _ _ _ _ _ _ => rfl) fx_no) (fx_cnd (fx_cnd (fun _ _ _ _ _ _ _ _ => rfl) fx_no) (fx_cnd (fun _ _ _ _ _ _ _ _ => rfl) fx_no)))) (fx_cnd (fx_cnd (fx_cnd (fun _ _ _ _ _ _ _ _ => rfl) fx_no) (fx_cnd (fx_cnd (fun _ _ _ _ _ _ _ _ => rfl) fx_no) (fx_cnd (fun _ _ _ _ _ _ _ _ => rfl) fx_no))) (fx_cnd (fx_cnd (fun _ _ _ _ _ _ _ _ => rfl) fx_no) (fx_cnd (fx_cnd (fun _ _ _ _ _ _ _ _ => rfl) fx_no) (fx_cnd (fun _ _ _ _ _ _ _ _ => rfl) fx_no))))
theorem fk_128_1 (X : ez_X) (pc : Nat) : fx_ok X (ft_128_1 X pc) (ez_t128_1 pc) := by
  delta ft_128_1 ez_t128_1
  exact fx_cnd (fx_cnd (fx_cnd (fx_cnd (fun _ _ _ _ _ _ _ _ => rfl) fx_no) (fx_cnd (fx_cnd (fun _ _ _ _ _ _ _ _ => rfl) fx_no) (fx_cnd (fun _ _ _ _ _ _ _ _ => rfl) fx_no))) (fx_cnd (fx_cnd (fun _ _ _ _ _ _ _ _ => rfl) fx_no) (fx_cnd (fx_cnd (fun _ _ _ _ _ _ _ _ => rfl) fx_no) (fx_cnd (fun _ _ _ _ _ _ _ _ => rfl) fx_no)))) (fx_cnd (fx_cnd (fx_cnd (fun _ _ _ _ _ _ _ _ => rfl) fx_no) (fx_cnd (fx_cnd (fun _ _ _ _ _ _ _ _ => rfl) fx_no) (fx_cnd (fun _ _ _ _ _ _ _ _ => rfl) fx_no))) (fx_cnd (fx_cnd (fun _ _ _ _ _ _ _ _ => rfl) fx_no) (fx_cnd (fx_cnd (fun _ _ _ _ _ _ _ _ => rfl) fx_no) (fx_cnd (fun _ _ _ _ _ _ _ _ => rfl) fx_no))))
theorem fk_128 (X : ez_X) (pc : Nat) : fx_ok X (ft_128 X pc) (ez_t128 pc) := by
  delta ft_128 ez_t128
  exact fx_cnd (fk_128_0 X pc) (fk_128_1 X pc)
theorem fk_129_0 (X : ez_X) (pc : Nat) : fx_ok X (ft_129_0 X pc) (ez_t129_0 pc) := by
  delta ft_129_0 ez_t129_0
  exact fx_cnd (fx_cnd (fx_cnd (fun _ _ _ _ _ _ _ _ => rfl) fx_no) (fx_cnd (fx_cnd (fun _ _ _ _ _ _ _ _ => rfl) fx_no) (fx_cnd (fun _ _ _ _ _ _ _ _ => rfl) fx_no))) (fx_cnd (fx_cnd (fx_cnd (fun _ _ _ _ _ _ _ _ => rfl) fx_no) (fx_cnd (fun _ _ _ _ _ _ _ _ => rfl) fx_no)) (fx_cnd (fx_cnd (fun _ _ _ _ _ _ _ _ => rfl) fx_no) (fx_cnd (fun _ _ _ _ _ _ _ _ => rfl) fx_no)))
theorem fk_129_1 (X : ez_X) (pc : Nat) : fx_ok X (ft_129_1 X pc) (ez_t129_1 pc) := by
  delta ft_129_1 ez_t129_1
  exact fx_cnd (fx_cnd (fx_cnd (fx_cnd (fun _ _ _ _ _ _ _ _ => rfl) fx_no) (fx_cnd (fun _ _ _ _ _ _ _ _ => rfl) fx_no)) (fx_cnd (fx_cnd (fun _ _ _ _ _ _ _ _ => rfl) fx_no) (fx_cnd (fun _ _ _ _ _ _ _ _ => rfl) fx_no))) (fx_cnd (fx_cnd (fx_cnd (fun _ _ _ _ _ _ _ _ => rfl) fx_no) (fx_cnd (fun _ _ _ _ _ _ _ _ => rfl) fx_no)) (fx_cnd (fx_cnd (fun _ _ _ _ _ _ _ _ => rfl) fx_no) (fx_cnd (fun _ _ _ _ _ _ _ _ => rfl) fx_no)))
theorem fk_129 (X : ez_X) (pc : Nat) : fx_ok X (ft_129 X pc) (ez_t129 pc) := by
  delta ft_129 ez_t129
  exact fx_cnd (fk_129_0 X pc) (fk_129_1 X pc)
theorem fk_130_0 (X : ez_X) (pc : Nat) : fx_ok X (ft_130_0 X pc) (ez_t130_0 pc) := by
  delta ft_130_0 ez_t130_0
  exact fx_cnd (fx_cnd (fx_cnd (fx_cnd (fun _ _ _ _ _ _ _ _ => rfl) fx_no) (fx_cnd (fun _ _ _ _ _ _ _ _ => rfl) fx_no)) (fx_cnd (fx_cnd (fun _ _ _ _ _ _ _ _ => rfl) fx_no) (fx_cnd (fun _ _ _ _ _ _ _ _ => rfl) fx_no))) (fx_cnd (fx_cnd (fx_cnd (fun _ _ _ _ _ _ _ _ => rfl) fx_no) (fx_cnd (fun _ _ _ _ _ _ _ _ => rfl) fx_no)) (fx_cnd (fx_cnd (fun _ _ _ _ _ _ _ _ => rfl) fx_no) (fx_cnd (fx_cnd (fun _ _ _ _ _ _ _ _ => rfl) fx_no) (fx_cnd (fun _ _ _ _ _ _ _ _ => rfl) fx_no))))
theorem fk_130_1 (X : ez_X) (pc : Nat) : fx_ok X (ft_130_1 X pc) (ez_t130_1 pc) := by
  delta ft_130_1 ez_t130_1
  exact fx_cnd (fx_cnd (fx_cnd (fx_cnd (fun _ _ _ _ _ _ _ _ => rfl) fx_no) (fx_cnd (fun _ _ _ _ _ _ _ _ => rfl) fx_no)) (fx_cnd (fx_cnd (fun _ _ _ _ _ _ _ _ => rfl) fx_no) (fx_cnd (fx_cnd (fun _ _ _ _ _ _ _ _ => rfl) fx_no) (fx_cnd (fun _ _ _ _ _ _ _ _ => rfl) fx_no)))) (fx_cnd (fx_cnd (fx_cnd (fun _ _ _ _ _ _ _ _ => rfl) fx_no) (fx_cnd (fun _ _ _ _ _ _ _ _ => rfl) fx_no)) (fx_cnd (fx_cnd (fun _ _ _ _ _ _ _ _ => rfl) fx_no) (fx_cnd (fx_cnd (fun _ _ _ _ _ _ _ _ => rfl) fx_no) (fx_cnd (fun _ _ _ _ _ _ _ _ => rfl) fx_no))))
theorem fk_130_2 (X : ez_X) (pc : Nat) : fx_ok X (ft_130_2 X pc) (ez_t130_2 pc) := by
  delta ft_130_2 ez_t130_2
  exact fx_cnd (fk_130_0 X pc) (fk_130_1 X pc)
theorem fk_130_3 (X : ez_X) (pc : Nat) : fx_ok X (ft_130_3 X pc) (ez_t130_3 pc) := by
  delta ft_130_3 ez_t130_3
  exact fx_cnd (fx_cnd (fx_cnd (fx_cnd (fun _ _ _ _ _ _ _ _ => rfl) fx_no) (fx_cnd (fun _ _ _ _ _ _ _ _ => rfl) fx_no)) (fx_cnd (fx_cnd (fun _ _ _ _ _ _ _ _ => rfl) fx_no) (fx_cnd (fx_cnd (fun _ _ _ _ _ _ _ _ => rfl) fx_no) (fx_cnd (fun _ _ _ _ _ _ _ _ => rfl) fx_no)))) (fx_cnd (fx_cnd (fx_cnd (fun _ _ _ _ _ _ _ _ => rfl) fx_no) (fx_cnd (fun _ _ _ _ _ _ _ _ => rfl) fx_no)) (fx_cnd (fx_cnd (fun _ _ _ _ _ _ _ _ => rfl) fx_no) (fx_cnd (fx_cnd (fun _ _ _ _ _ _ _ _ => rfl) fx_no) (fx_cnd (fun _ _ _ _ _ _ _ _ => rfl) fx_no))))
theorem fk_130_4 (X : ez_X) (pc : Nat) : fx_ok X (ft_130_4 X pc) (ez_t130_4 pc) := by
  delta ft_130_4 ez_t130_4
  exact fx_cnd (fx_cnd (fx_cnd (fx_cnd (fun _ _ _ _ _ _ _ _ => rfl) fx_no) (fx_cnd (fun _ _ _ _ _ _ _ _ => rfl) fx_no)) (fx_cnd (fx_cnd (fun _ _ _ _ _ _ _ _ => rfl) fx_no) (fx_cnd (fx_cnd (fun _ _ _ _ _ _ _ _ => rfl) fx_no) (fx_cnd (fun _ _ _ _ _ _ _ _ => rfl) fx_no)))) (fx_cnd (fx_cnd (fx_cnd (fun _ _ _ _ _ _ _ _ => rfl) fx_no) (fx_cnd (fun _ _ _ _ _ _ _ _ => rfl) fx_no)) (fx_cnd (fx_cnd (fun _ _ _ _ _ _ _ _ => rfl) fx_no) (fx_cnd (fx_cnd (fun _ _ _ _ _ _ _ _ => rfl) fx_no) (fx_cnd (fun _ _ _ _ _ _ _ _ => rfl) fx_no))))
theorem fk_130_5 (X : ez_X) (pc : Nat) : fx_ok X (ft_130_5 X pc) (ez_t130_5 pc) := by
  delta ft_130_5 ez_t130_5
  exact fx_cnd (fk_130_3 X pc) (fk_130_4 X pc)
theorem fk_130_6 (X : ez_X) (pc : Nat) : fx_ok X (ft_130_6 X pc) (ez_t130_6 pc) := by
  delta ft_130_6 ez_t130_6
  exact fx_cnd (fk_130_2 X pc) (fk_130_5 X pc)
theorem fk_130_7 (X : ez_X) (pc : Nat) : fx_ok X (ft_130_7 X pc) (ez_t130_7 pc) := by
  delta ft_130_7 ez_t130_7
  exact fx_cnd (fx_cnd (fx_cnd (fx_cnd (fun _ _ _ _ _ _ _ _ => rfl) fx_no) (fx_cnd (fun _ _ _ _ _ _ _ _ => rfl) fx_no)) (fx_cnd (fx_cnd (fun _ _ _ _ _ _ _ _ => rfl) fx_no) (fx_cnd (fx_cnd (fun _ _ _ _ _ _ _ _ => rfl) fx_no) (fx_cnd (fun _ _ _ _ _ _ _ _ => rfl) fx_no)))) (fx_cnd (fx_cnd (fx_cnd (fun _ _ _ _ _ _ _ _ => rfl) fx_no) (fx_cnd (fun _ _ _ _ _ _ _ _ => rfl) fx_no)) (fx_cnd (fx_cnd (fun _ _ _ _ _ _ _ _ => rfl) fx_no) (fx_cnd (fx_cnd (fun _ _ _ _ _ _ _ _ => rfl) fx_no) (fx_cnd (fun _ _ _ _ _ _ _ _ => rfl) fx_no))))
theorem fk_130_8 (X : ez_X) (pc : Nat) : fx_ok X (ft_130_8 X pc) (ez_t130_8 pc) := by
  delta ft_130_8 ez_t130_8
  exact fx_cnd (fx_cnd (fx_cnd (fx_cnd (fun _ _ _ _ _ _ _ _ => rfl) fx_no) (fx_cnd (fun _ _ _ _ _ _ _ _ => rfl) fx_no)) (fx_cnd (fx_cnd (fun _ _ _ _ _ _ _ _ => rfl) fx_no) (fx_cnd (fx_cnd (fun _ _ _ _ _ _ _ _ => rfl) fx_no) (fx_cnd (fun _ _ _ _ _ _ _ _ => rfl) fx_no)))) (fx_cnd (fx_cnd (fx_cnd (fun _ _ _ _ _ _ _ _ => rfl) fx_no) (fx_cnd (fun _ _ _ _ _ _ _ _ => rfl) fx_no)) (fx_cnd (fx_cnd (fun _ _ _ _ _ _ _ _ => rfl) fx_no) (fx_cnd (fx_cnd (fun _ _ _ _ _ _ _ _ => rfl) fx_no) (fx_cnd (fun _ _ _ _ _ _ _ _ => rfl) fx_no))))
theorem fk_130_9 (X : ez_X) (pc : Nat) : fx_ok X (ft_130_9 X pc) (ez_t130_9 pc) := by
  delta ft_130_9 ez_t130_9
  exact fx_cnd (fk_130_7 X pc) (fk_130_8 X pc)
theorem fk_130_10 (X : ez_X) (pc : Nat) : fx_ok X (ft_130_10 X pc) (ez_t130_10 pc) := by
  delta ft_130_10 ez_t130_10
  exact fx_cnd (fx_cnd (fx_cnd (fx_cnd (fun _ _ _ _ _ _ _ _ => rfl) fx_no) (fx_cnd (fun _ _ _ _ _ _ _ _ => rfl) fx_no)) (fx_cnd (fx_cnd (fun _ _ _ _ _ _ _ _ => rfl) fx_no) (fx_cnd (fx_cnd (fun _ _ _ _ _ _ _ _ => rfl) fx_no) (fx_cnd (fun _ _ _ _ _ _ _ _ => rfl) fx_no)))) (fx_cnd (fx_cnd (fx_cnd (fun _ _ _ _ _ _ _ _ => rfl) fx_no) (fx_cnd (fun _ _ _ _ _ _ _ _ => rfl) fx_no)) (fx_cnd (fx_cnd (fun _ _ _ _ _ _ _ _ => rfl) fx_no) (fx_cnd (fx_cnd (fun _ _ _ _ _ _ _ _ => rfl) fx_no) (fx_cnd (fun _ _ _ _ _ _ _ _ => rfl) fx_no))))
theorem fk_130_11 (X : ez_X) (pc : Nat) : fx_ok X (ft_130_11 X pc) (ez_t130_11 pc) := by
  delta ft_130_11 ez_t130_11
  exact fx_cnd (fx_cnd (fx_cnd (fx_cnd (fun _ _ _ _ _ _ _ _ => rfl) fx_no) (fx_cnd (fun _ _ _ _ _ _ _ _ => rfl) fx_no)) (fx_cnd (fx_cnd (fun _ _ _ _ _ _ _ _ => rfl) fx_no) (fx_cnd (fx_cnd (fun _ _ _ _ _ _ _ _ => rfl) fx_no) (fx_cnd (fun _ _ _ _ _ _ _ _ => rfl) fx_no)))) (fx_cnd (fx_cnd (fx_cnd (fun _ _ _ _ _ _ _ _ => rfl) fx_no) (fx_cnd (fun _ _ _ _ _ _ _ _ => rfl) fx_no)) (fx_cnd (fx_cnd (fun _ _ _ _ _ _ _ _ => rfl) fx_no) (fx_cnd (fx_cnd (fun _ _ _ _ _ _ _ _ => rfl) fx_no) (fx_cnd (fun _ _ _ _ _ _ _ _ => rfl) fx_no))))
theorem fk_130_12 (X : ez_X) (pc : Nat) : fx_ok X (ft_130_12 X pc) (ez_t130_12 pc) := by
  delta ft_130_12 ez_t130_12
  exact fx_cnd (fk_130_10 X pc) (fk_130_11 X pc)
theorem fk_130_13 (X : ez_X) (pc : Nat) : fx_ok X (ft_130_13 X pc) (ez_t130_13 pc) := by
  delta ft_130_13 ez_t130_13
  exact fx_cnd (fk_130_9 X pc) (fk_130_12 X pc)
theorem fk_130 (X : ez_X) (pc : Nat) : fx_ok X (ft_130 X pc) (ez_t130 pc) := by
  delta ft_130 ez_t130
  exact fx_cnd (fk_130_6 X pc) (fk_130_13 X pc)
theorem fk_131_0 (X : ez_X) (pc : Nat) : fx_ok X (ft_131_0 X pc) (ez_t131_0 pc) := by
  delta ft_131_0 ez_t131_0
  exact fx_cnd (fx_cnd (fx_cnd (fx_cnd (fun _ _ _ _ _ _ _ _ => rfl) fx_no) (fx_cnd (fun _ _ _ _ _ _ _ _ => rfl) fx_no)) (fx_cnd (fx_cnd (fun _ _ _ _ _ _ _ _ => rfl) fx_no) (fx_cnd (fx_cnd (fun _ _ _ _ _ _ _ _ => rfl) fx_no) (fx_cnd (fun _ _ _ _ _ _ _ _ => rfl) fx_no)))) (fx_cnd (fx_cnd (fx_cnd (fun _ _ _ _ _ _ _ _ => rfl) fx_no) (fx_cnd (fun _ _ _ _ _ _ _ _ => rfl) fx_no)) (fx_cnd (fx_cnd (fun _ _ _ _ _ _ _ _ => rfl) fx_no) (fx_cnd (fx_cnd (fun _ _ _ _ _ _ _ _ => rfl) fx_no) (fx_cnd (fun _ _ _ _ _ _ _ _ => rfl) fx_no))))
theorem fk_131_1 (X : ez_X) (pc : Nat) : fx_ok X (ft_131_1 X pc) (ez_t131_1 pc) := by
  delta ft_131_1 ez_t131_1
  exact fx_cnd (fx_cnd (fx_cnd (fx_cnd (fun _ _ _ _ _ _ _ _ => rfl) fx_no) (fx_cnd (fun _ _ _ _ _ _ _ _ => rfl) fx_no)) (fx_cnd (fx_cnd (fun _ _ _ _ _ _ _ _ => rfl) fx_no) (fx_cnd (fx_cnd (fun _ _ _ _ _ _ _ _ => rfl) fx_no) (fx_cnd (fun _ _ _ _ _ _ _ _ => rfl) fx_no)))) (fx_cnd (fx_cnd (fx_cnd (fun _ _ _ _ _ _ _ _ => rfl) fx_no) (fx_cnd (fx_cnd (fun _ _ _ _ _ _ _ _ => rfl) fx_no) (fx_cnd (fun _ _ _ _ _ _ _ _ => rfl) fx_no))) (fx_cnd (fx_cnd (fun _ _ _ _ _ _ _ _ => rfl) fx_no) (fx_cnd (fx_cnd (fun _ _ _ _ _ _ _ _ => rfl) fx_no) (fx_cnd (fun _ _ _ _ _ _ _ _ => rfl) fx_no))))
theorem fk_131_2 (X : ez_X) (pc : Nat) : fx_ok X (ft_131_2 X pc) (ez_t131_2 pc) := by
  delta ft_131_2 ez_t131_2
  exact fx_cnd (fk_131_0 X pc) (fk_131_1 X pc)
theorem fk_131_3 (X : ez_X) (pc : Nat) : fx_ok X (ft_131_3 X pc) (ez_t131_3 pc) := by
  delta ft_131_3 ez_t131_3
  exact fx_cnd (fx_cnd (fx_cnd (fx_cnd (fun _ _ _ _ _ _ _ _ => rfl) fx_no) (fx_cnd (fun _ _ _ _ _ _ _ _ => rfl) fx_no)) (fx_cnd (fx_cnd (fun _ _ _ _ _ _ _ _ => rfl) fx_no) (fx_cnd (fx_cnd (fun _ _ _ _ _ _ _ _ => rfl) fx_no) (fx_cnd (fun _ _ _ _ _ _ _ _ => rfl) fx_no)))) (fx_cnd (fx_cnd (fx_cnd (fun _ _ _ _ _ _ _ _ => rfl) fx_no) (fx_cnd (fun _ _ _ _ _ _ _ _ => rfl) fx_no)) (fx_cnd (fx_cnd (fun _ _ _ _ _ _ _ _ => rfl) fx_no) (fx_cnd (fx_cnd (fun _ _ _ _ _ _ _ _ => rfl) fx_no) (fx_cnd (fun _ _ _ _ _ _ _ _ => rfl) fx_no))))
theorem fk_131_4 (X : ez_X) (pc : Nat) : fx_ok X (ft_131_4 X pc) (ez_t131_4 pc) := by
  delta ft_131_4 ez_t131_4
  exact fx_cnd (fx_cnd (fx_cnd (fx_cnd (fun _ _ _ _ _ _ _ _ => rfl) fx_no) (fx_cnd (fun _ _ _ _ _ _ _ _ => rfl) fx_no)) (fx_cnd (fx_cnd (fun _ _ _ _ _ _ _ _ => rfl) fx_no) (fx_cnd (fx_cnd (fun _ _ _ _ _ _ _ _ => rfl) fx_no) (fx_cnd (fun _ _ _ _ _ _ _ _ => rfl) fx_no)))) (fx_cnd (fx_cnd (fx_cnd (fun _ _ _ _ _ _ _ _ => rfl) fx_no) (fx_cnd (fx_cnd (fun _ _ _ _ _ _ _ _ => rfl) fx_no) (fx_cnd (fun _ _ _ _ _ _ _ _ => rfl) fx_no))) (fx_cnd (fx_cnd (fun _ _ _ _ _ _ _ _ => rfl) fx_no) (fx_cnd (fx_cnd (fun _ _ _ _ _ _ _ _ => rfl) fx_no) (fx_cnd (fun _ _ _ _ _ _ _ _ => rfl) fx_no))))
theorem fk_131_5 (X : ez_X) (pc : Nat) : fx_ok X (ft_131_5 X pc) (ez_t131_5 pc) := by
  delta ft_131_5 ez_t131_5
  exact fx_cnd (fk_131_3 X pc) (fk_131_4 X pc)
theorem fk_131 (X : ez_X) (pc : Nat) : fx_ok X (ft_131 X pc) (ez_t131 pc) := by
  delta ft_131 ez_t131
  exact fx_cnd (fk_131_2 X pc) (fk_131_5 X pc)
theorem fk_132_0 (X : ez_X) (pc : Nat) : fx_ok X (ft_132_0 X pc) (ez_t132_0 pc) := by
  delta ft_132_0 ez_t132_0
  exact fx_cnd (fx_cnd (fx_cnd (fun _ _ _ _ _ _ _ _ => rfl) fx_no) (fx_cnd (fx_cnd (fun _ _ _ _ _ _ _ _ => rfl) fx_no) (fx_cnd (fun _ _ _ _ _ _ _ _ => rfl) fx_no))) (fx_cnd (fx_cnd (fx_cnd (fun _ _ _ _ _ _ _ _ => rfl) fx_no) (fx_cnd (fun _ _ _ _ _ _ _ _ => rfl) fx_no)) (fx_cnd (fx_cnd (fun _ _ _ _ _ _ _ _ => rfl) fx_no) (fx_cnd (fun _ _ _ _ _ _ _ _ => rfl) fx_no)))
theorem fk_132_1 (X : ez_X) (pc : Nat) : fx_ok X (ft_132_1 X pc) (ez_t132_1 pc) := by
  delta ft_132_1 ez_t132_1
  exact fx_cnd (fx_cnd (fx_cnd (fun _ _ _ _ _ _ _ _ => rfl) fx_no) (fx_cnd (fx_cnd (fun _ _ _ _ _ _ _ _ => rfl) fx_no) (fx_cnd (fun _ _ _ _ _ _ _ _ => rfl) fx_no))) (fx_cnd (fx_cnd (fx_cnd (fun _ _ _ _ _ _ _ _ => rfl) fx_no) (fx_cnd (fun _ _ _ _ _ _ _ _ => rfl) fx_no)) (fx_cnd (fx_cnd (fun _ _ _ _ _ _ _ _ => rfl) fx_no) (fx_cnd (fun _ _ _ _ _ _ _ _ => rfl) fx_no)))
theorem fk_132_2 (X : ez_X) (pc : Nat) : fx_ok X (ft_132_2 X pc) (ez_t132_2 pc) := by
  delta ft_132_2 ez_t132_2
  exact fx_cnd (fk_132_0 X pc) (fk_132_1 X pc)
theorem fk_132_3 (X : ez_X) (pc : Nat) : fx_ok X (ft_132_3 X pc) (ez_t132_3 pc) := by
  delta ft_132_3 ez_t132_3
  exact fx_cnd (fx_cnd (fx_cnd (fun _ _ _ _ _ _ _ _ => rfl) fx_no) (fx_cnd (fx_cnd (fun _ _ _ _ _ _ _ _ => rfl) fx_no) (fx_cnd (fun _ _ _ _ _ _ _ _ => rfl) fx_no))) (fx_cnd (fx_cnd (fx_cnd (fun _ _ _ _ _ _ _ _ => rfl) fx_no) (fx_cnd (fun _ _ _ _ _ _ _ _ => rfl) fx_no)) (fx_cnd (fx_cnd (fun _ _ _ _ _ _ _ _ => rfl) fx_no) (fx_cnd (fun _ _ _ _ _ _ _ _ => rfl) fx_no)))
theorem fk_132_4 (X : ez_X) (pc : Nat) : fx_ok X (ft_132_4 X pc) (ez_t132_4 pc) := by
  delta ft_132_4 ez_t132_4
  exact fx_cnd (fx_cnd (fx_cnd (fun _ _ _ _ _ _ _ _ => rfl) fx_no) (fx_cnd (fx_cnd (fun _ _ _ _ _ _ _ _ => rfl) fx_no) (fx_cnd (fun _ _ _ _ _ _ _ _ => rfl) fx_no))) (fx_cnd (fx_cnd (fx_cnd (fun _ _ _ _ _ _ _ _ => rfl) fx_no) (fx_cnd (fun _ _ _ _ _ _ _ _ => rfl) fx_no)) (fx_cnd (fx_cnd (fun _ _ _ _ _ _ _ _ => rfl) fx_no) (fx_cnd (fun _ _ _ _ _ _ _ _ => rfl) fx_no)))
theorem fk_132_5 (X : ez_X) (pc : Nat) : fx_ok X (ft_132_5 X pc) (ez_t132_5 pc) := by
  delta ft_132_5 ez_t132_5
  exact fx_cnd (fk_132_3 X pc) (fk_132_4 X pc)
theorem fk_132 (X : ez_X) (pc : Nat) : fx_ok X (ft_132 X pc) (ez_t132 pc) := by
  delta ft_132 ez_t132
  exact fx_cnd (fk_132_2 X pc) (fk_132_5 X pc)
theorem fk_133 (X : ez_X) (pc : Nat) : fx_ok X (ft_133 X pc) (ez_t133 pc) := by
  delta ft_133 ez_t133
  exact fx_cnd (fx_cnd (fx_cnd (fun _ _ _ _ _ _ _ _ => rfl) fx_no) (fx_cnd (fun _ _ _ _ _ _ _ _ => rfl) fx_no)) (fx_cnd (fx_cnd (fun _ _ _ _ _ _ _ _ => rfl) fx_no) (fx_cnd (fx_cnd (fun _ _ _ _ _ _ _ _ => rfl) fx_no) (fx_cnd (fun _ _ _ _ _ _ _ _ => rfl) fx_no)))
theorem fk_134_0 (X : ez_X) (pc : Nat) : fx_ok X (ft_134_0 X pc) (ez_t134_0 pc) := by
  delta ft_134_0 ez_t134_0
  exact fx_cnd (fx_cnd (fx_cnd (fun _ _ _ _ _ _ _ _ => rfl) fx_no) (fx_cnd (fx_cnd (fun _ _ _ _ _ _ _ _ => rfl) fx_no) (fx_cnd (fun _ _ _ _ _ _ _ _ => rfl) fx_no))) (fx_cnd (fx_cnd (fun _ _ _ _ _ _ _ _ => rfl) fx_no) (fx_cnd (fx_cnd (fun _ _ _ _ _ _ _ _ => rfl) fx_no) (fx_cnd (fun _ _ _ _ _ _ _ _ => rfl) fx_no)))
theorem fk_134_1 (X : ez_X) (pc : Nat) : fx_ok X (ft_134_1 X pc) (ez_t134_1 pc) := by
  delta ft_134_1 ez_t134_1
  exact fx_cnd (fx_cnd (fx_cnd (fun _ _ _ _ _ _ _ _ => rfl) fx_no) (fx_cnd (fx_cnd (fun _ _ _ _ _ _ _ _ => rfl) fx_no) (fx_cnd (fun _ _ _ _ _ _ _ _ => rfl) fx_no))) (fx_cnd (fx_cnd (fx_cnd (fun _ _ _ _ _ _ _ _ => rfl) fx_no) (fx_cnd (fun _ _ _ _ _ _ _ _ => rfl) fx_no)) (fx_cnd (fx_cnd (fun _ _ _ _ _ _ _ _ => rfl) fx_no) (fx_cnd (fun _ _ _ _ _ _ _ _ => rfl) fx_no)))
theorem fk_134_2 (X : ez_X) (pc : Nat) : fx_ok X (ft_134_2 X pc) (ez_t134_2 pc) := by
  delta ft_134_2 ez_t134_2
  exact fx_cnd (fk_134_0 X pc) (fk_134_1 X pc)
theorem fk_134_3 (X : ez_X) (pc : Nat) : fx_ok X (ft_134_3 X pc) (ez_t134_3 pc) := by
  delta ft_134_3 ez_t134_3
  exact fx_cnd (fx_cnd (fx_cnd (fun _ _ _ _ _ _ _ _ => rfl) fx_no) (fx_cnd (fx_cnd (fun _ _ _ _ _ _ _ _ => rfl) fx_no) (fx_cnd (fun _ _ _ _ _ _ _ _ => rfl) fx_no))) (fx_cnd (fx_cnd (fun _ _ _ _ _ _ _ _ => rfl) fx_no) (fx_cnd (fx_cnd (fun _ _ _ _ _ _ _ _ => rfl) fx_no) (fx_cnd (fun _ _ _ _ _ _ _ _ => rfl) fx_no)))
theorem fk_134_4 (X : ez_X) (pc : Nat) : fx_ok X (ft_134_4 X pc) (ez_t134_4 pc) := by
  delta ft_134_4 ez_t134_4
  exact fx_cnd (fx_cnd (fx_cnd (fun _ _ _ _ _ _ _ _ => rfl) fx_no) (fx_cnd (fx_cnd (fun _ _ _ _ _ _ _ _ => rfl) fx_no) (fx_cnd (fun _ _ _ _ _ _ _ _ => rfl) fx_no))) (fx_cnd (fx_cnd (fx_cnd (fun _ _ _ _ _ _ _ _ => rfl) fx_no) (fx_cnd (fun _ _ _ _ _ _ _ _ => rfl) fx_no)) (fx_cnd (fx_cnd (fun _ _ _ _ _ _ _ _ => rfl) fx_no) (fx_cnd (fun _ _ _ _ _ _ _ _ => rfl) fx_no)))
theorem fk_134_5 (X : ez_X) (pc : Nat) : fx_ok X (ft_134_5 X pc) (ez_t134_5 pc) := by
  delta ft_134_5 ez_t134_5
  exact fx_cnd (fk_134_3 X pc) (fk_134_4 X pc)
theorem fk_134 (X : ez_X) (pc : Nat) : fx_ok X (ft_134 X pc) (ez_t134 pc) := by
  delta ft_134 ez_t134
  exact fx_cnd (fk_134_2 X pc) (fk_134_5 X pc)
theorem fk_135_0 (X : ez_X) (pc : Nat) : fx_ok X (ft_135_0 X pc) (ez_t135_0 pc) := by
  delta ft_135_0 ez_t135_0
  exact fx_cnd (fx_cnd (fx_cnd (fx_cnd (fun _ _ _ _ _ _ _ _ => rfl) fx_no) (fx_cnd (fun _ _ _ _ _ _ _ _ => rfl) fx_no)) (fx_cnd (fx_cnd (fun _ _ _ _ _ _ _ _ => rfl) fx_no) (fx_cnd (fun _ _ _ _ _ _ _ _ => rfl) fx_no))) (fx_cnd (fx_cnd (fx_cnd (fun _ _ _ _ _ _ _ _ => rfl) fx_no) (fx_cnd (fun _ _ _ _ _ _ _ _ => rfl) fx_no)) (fx_cnd (fx_cnd (fun _ _ _ _ _ _ _ _ => rfl) fx_no) (fx_cnd (fx_cnd (fun _ _ _ _ _ _ _ _ => rfl) fx_no) (fx_cnd (fun _ _ _ _ _ _ _ _ => rfl) fx_no))))
theorem fk_135_1 (X : ez_X) (pc : Nat) : fx_ok X (ft_135_1 X pc) (ez_t135_1 pc) := by
  delta ft_135_1 ez_t135_1
  exact fx_cnd (fx_cnd (fx_cnd (fx_cnd (fun _ _ _ _ _ _ _ _ => rfl) fx_no) (fx_cnd (fun _ _ _ _ _ _ _ _ => rfl) fx_no)) (fx_cnd (fx_cnd (fun _ _ _ _ _ _ _ _ => rfl) fx_no) (fx_cnd (fun _ _ _ _ _ _ _ _ => rfl) fx_no))) (fx_cnd (fx_cnd (fx_cnd (fun _ _ _ _ _ _ _ _ => rfl) fx_no) (fx_cnd (fun _ _ _ _ _ _ _ _ => rfl) fx_no)) (fx_cnd (fx_cnd (fun _ _ _ _ _ _ _ _ => rfl) fx_no) (fx_cnd (fx_cnd (fun _ _ _ _ _ _ _ _ => rfl) fx_no) (fx_cnd (fun _ _ _ _ _ _ _ _ => rfl) fx_no))))
theorem fk_135_2 (X : ez_X) (pc : Nat) : fx_ok X (ft_135_2 X pc) (ez_t135_2 pc) := by
  delta ft_135_2 ez_t135_2
  exact fx_cnd (fk_135_0 X pc) (fk_135_1 X pc)
theorem fk_135_3 (X : ez_X) (pc : Nat) : fx_ok X (ft_135_3 X pc) (ez_t135_3 pc) := by
  delta ft_135_3 ez_t135_3
  exact fx_cnd (fx_cnd (fx_cnd (fx_cnd (fun _ _ _ _ _ _ _ _ => rfl) fx_no) (fx_cnd (fun _ _ _ _ _ _ _ _ => rfl) fx_no)) (fx_cnd (fx_cnd (fun _ _ _ _ _ _ _ _ => rfl) fx_no) (fx_cnd (fun _ _ _ _ _ _ _ _ => rfl) fx_no))) (fx_cnd (fx_cnd (fx_cnd (fun _ _ _ _ _ _ _ _ => rfl) fx_no) (fx_cnd (fun _ _ _ _ _ _ _ _ => rfl) fx_no)) (fx_cnd (fx_cnd (fun _ _ _ _ _ _ _ _ => rfl) fx_no) (fx_cnd (fx_cnd (fun _ _ _ _ _ _ _ _ => rfl) fx_no) (fx_cnd (fun _ _ _ _ _ _ _ _ => rfl) fx_no))))
theorem fk_135_4 (X : ez_X) (pc : Nat) : fx_ok X (ft_135_4 X pc) (ez_t135_4 pc) := by
  delta ft_135_4 ez_t135_4
  exact fx_cnd (fx_cnd (fx_cnd (fx_cnd (fun _ _ _ _ _ _ _ _ => rfl) fx_no) (fx_cnd (fun _ _ _ _ _ _ _ _ => rfl) fx_no)) (fx_cnd (fx_cnd (fun _ _ _ _ _ _ _ _ => rfl) fx_no) (fx_cnd (fun _ _ _ _ _ _ _ _ => rfl) fx_no))) (fx_cnd (fx_cnd (fx_cnd (fun _ _ _ _ _ _ _ _ => rfl) fx_no) (fx_cnd (fun _ _ _ _ _ _ _ _ => rfl) fx_no)) (fx_cnd (fx_cnd (fun _ _ _ _ _ _ _ _ => rfl) fx_no) (fx_cnd (fx_cnd (fun _ _ _ _ _ _ _ _ => rfl) fx_no) (fx_cnd (fun _ _ _ _ _ _ _ _ => rfl) fx_no))))
theorem fk_135_5 (X : ez_X) (pc : Nat) : fx_ok X (ft_135_5 X pc) (ez_t135_5 pc) := by
  delta ft_135_5 ez_t135_5
  exact fx_cnd (fk_135_3 X pc) (fk_135_4 X pc)
theorem fk_135_6 (X : ez_X) (pc : Nat) : fx_ok X (ft_135_6 X pc) (ez_t135_6 pc) := by
  delta ft_135_6 ez_t135_6
  exact fx_cnd (fk_135_2 X pc) (fk_135_5 X pc)
theorem fk_135_7 (X : ez_X) (pc : Nat) : fx_ok X (ft_135_7 X pc) (ez_t135_7 pc) := by
  delta ft_135_7 ez_t135_7
  exact fx_cnd (fx_cnd (fx_cnd (fx_cnd (fun _ _ _ _ _ _ _ _ => rfl) fx_no) (fx_cnd (fun _ _ _ _ _ _ _ _ => rfl) fx_no)) (fx_cnd (fx_cnd (fun _ _ _ _ _ _ _ _ => rfl) fx_no) (fx_cnd (fun _ _ _ _ _ _ _ _ => rfl) fx_no))) (fx_cnd (fx_cnd (fx_cnd (fun _ _ _ _ _ _ _ _ => rfl) fx_no) (fx_cnd (fun _ _ _ _ _ _ _ _ => rfl) fx_no)) (fx_cnd (fx_cnd (fun _ _ _ _ _ _ _ _ => rfl) fx_no) (fx_cnd (fx_cnd (fun _ _ _ _ _ _ _ _ => rfl) fx_no) (fx_cnd (fun _ _ _ _ _ _ _ _ => rfl) fx_no))))
theorem fk_135_8 (X : ez_X) (pc : Nat) : fx_ok X (ft_135_8 X pc) (ez_t135_8 pc) := by
  delta ft_135_8 ez_t135_8
  exact fx_cnd (fx_cnd (fx_cnd (fx_cnd (fun _ _ _ _ _ _ _ _ => rfl) fx_no) (fx_cnd (fun _ _ _ _ _ _ _ _ => rfl) fx_no)) (fx_cnd (fx_cnd (fun _ _ _ _ _ _ _ _ => rfl) fx_no) (fx_cnd (fun _ _ _ _ _ _ _ _ => rfl) fx_no))) (fx_cnd (fx_cnd (fx_cnd (fun _ _ _ _ _ _ _ _ => rfl) fx_no) (fx_cnd (fun _ _ _ _ _ _ _ _ => rfl) fx_no)) (fx_cnd (fx_cnd (fun _ _ _ _ _ _ _ _ => rfl) fx_no) (fx_cnd (fx_cnd (fun _ _ _ _ _ _ _ _ => rfl) fx_no) (fx_cnd (fun _ _ _ _ _ _ _ _ => rfl) fx_no))))
theorem fk_135_9 (X : ez_X) (pc : Nat) : fx_ok X (ft_135_9 X pc) (ez_t135_9 pc) := by
  delta ft_135_9 ez_t135_9
  exact fx_cnd (fk_135_7 X pc) (fk_135_8 X pc)
theorem fk_135_10 (X : ez_X) (pc : Nat) : fx_ok X (ft_135_10 X pc) (ez_t135_10 pc) := by
  delta ft_135_10 ez_t135_10
  exact fx_cnd (fx_cnd (fx_cnd (fx_cnd (fun _ _ _ _ _ _ _ _ => rfl) fx_no) (fx_cnd (fun _ _ _ _ _ _ _ _ => rfl) fx_no)) (fx_cnd (fx_cnd (fun _ _ _ _ _ _ _ _ => rfl) fx_no) (fx_cnd (fun _ _ _ _ _ _ _ _ => rfl) fx_no))) (fx_cnd (fx_cnd (fx_cnd (fun _ _ _ _ _ _ _ _ => rfl) fx_no) (fx_cnd (fun _ _ _ _ _ _ _ _ => rfl) fx_no)) (fx_cnd (fx_cnd (fun _ _ _ _ _ _ _ _ => rfl) fx_no) (fx_cnd (fx_cnd (fun _ _ _ _ _ _ _ _ => rfl) fx_no) (fx_cnd (fun _ _ _ _ _ _ _ _ => rfl) fx_no))))
theorem fk_135_11 (X : ez_X) (pc : Nat) : fx_ok X (ft_135_11 X pc) (ez_t135_11 pc) := by
  delta ft_135_11 ez_t135_11
  exact fx_cnd (fx_cnd (fx_cnd (fx_cnd (fun _ _ _ _ _ _ _ _ => rfl) fx_no) (fx_cnd (fun _ _ _ _ _ _ _ _ => rfl) fx_no)) (fx_cnd (fx_cnd (fun _ _ _ _ _ _ _ _ => rfl) fx_no) (fx_cnd (fx_cnd (fun _ _ _ _ _ _ _ _ => rfl) fx_no) (fx_cnd (fun _ _ _ _ _ _ _ _ => rfl) fx_no)))) (fx_cnd (fx_cnd (fx_cnd (fun _ _ _ _ _ _ _ _ => rfl) fx_no) (fx_cnd (fun _ _ _ _ _ _ _ _ => rfl) fx_no)) (fx_cnd (fx_cnd (fun _ _ _ _ _ _ _ _ => rfl) fx_no) (fx_cnd (fx_cnd (fun _ _ _ _ _ _ _ _ => rfl) fx_no) (fx_cnd (fun _ _ _ _ _ _ _ _ => rfl) fx_no))))
theorem fk_135_12 (X : ez_X) (pc : Nat) : fx_ok X (ft_135_12 X pc) (ez_t135_12 pc) := by
  delta ft_135_12 ez_t135_12
  exact fx_cnd (fk_135_10 X pc) (fk_135_11 X pc)
theorem fk_135_13 (X : ez_X) (pc : Nat) : fx_ok X (ft_135_13 X pc) (ez_t135_13 pc) := by
  delta ft_135_13 ez_t135_13
  exact fx_cnd (fk_135_9 X pc) (fk_135_12 X pc)
theorem fk_135 (X : ez_X) (pc : Nat) : fx_ok X (ft_135 X pc) (ez_t135 pc) := by
  delta ft_135 ez_t135
  exact fx_cnd (fk_135_6 X pc) (fk_135_13 X pc)
theorem fk_136_0 (X : ez_X) (pc : Nat) : fx_ok X (ft_136_0 X pc) (ez_t136_0 pc) := by
  delta ft_136_0 ez_t136_0
  exact fx_cnd (fx_cnd (fx_cnd (fun _ _ _ _ _ _ _ _ => rfl) fx_no) (fx_cnd (fx_cnd (fun _ _ _ _ _ _ _ _ => rfl) fx_no) (fx_cnd (fun _ _ _ _ _ _ _ _ => rfl) fx_no))) (fx_cnd (fx_cnd (fun _ _ _ _ _ _ _ _ => rfl) fx_no) (fx_cnd (fx_cnd (fun _ _ _ _ _ _ _ _ => rfl) fx_no) (fx_cnd (fun _ _ _ _ _ _ _ _ => rfl) fx_no)))
theorem fk_136_1 (X : ez_X) (pc : Nat) : fx_ok X (ft_136_1 X pc) (ez_t136_1 pc) := by
  delta ft_136_1 ez_t136_1
  exact fx_cnd (fx_cnd (fx_cnd (fun _ _ _ _ _ _ _ _ => rfl) fx_no) (fx_cnd (fx_cnd (fun _ _ _ _ _ _ _ _ => rfl) fx_no) (fx_cnd (fun _ _ _ _ _ _ _ _ => rfl) fx_no))) (fx_cnd (fx_cnd (fx_cnd (fun _ _ _ _ _ _ _ _ => rfl) fx_no) (fx_cnd (fun _ _ _ _ _ _ _ _ => rfl) fx_no)) (fx_cnd (fx_cnd (fun _ _ _ _ _ _ _ _ => rfl) fx_no) (fx_cnd (fun _ _ _ _ _ _ _ _ => rfl) fx_no)))
theorem fk_136 (X : ez_X) (pc : Nat) : fx_ok X (ft_136 X pc) (ez_t136 pc) := by
  delta ft_136 ez_t136
  exact fx_cnd (fk_136_0 X pc) (fk_136_1 X pc)
theorem fk_137_0 (X : ez_X) (pc : Nat) : fx_ok X (ft_137_0 X pc) (ez_t137_0 pc) := by
  delta ft_137_0 ez_t137_0
  exact fx_cnd (fx_cnd (fx_cnd (fx_cnd (fun _ _ _ _ _ _ _ _ => rfl) fx_no) (fx_cnd (fun _ _ _ _ _ _ _ _ => rfl) fx_no)) (fx_cnd (fx_cnd (fun _ _ _ _ _ _ _ _ => rfl) fx_no) (fx_cnd (fx_cnd (fun _ _ _ _ _ _ _ _ => rfl) fx_no) (fx_cnd (fun _ _ _ _ _ _ _ _ => rfl) fx_no)))) (fx_cnd (fx_cnd (fx_cnd (fun _ _ _ _ _ _ _ _ => rfl) fx_no) (fx_cnd (fx_cnd (fun _ _ _ _ _ _ _ _ => rfl) fx_no) (fx_cnd (fun _ _ _ _ _ _ _ _ => rfl) fx_no))) (fx_cnd (fx_cnd (fun _ _ _ _ _ _ _ _ => rfl) fx_no) (fx_cnd (fx_cnd (fun _ _ _ _ _ _ _ _ => rfl) fx_no) (fx_cnd (fun _ _ _ _ _ _ _ _ => rfl) fx_no))))
theorem fk_137_1 (X : ez_X) (pc : Nat) : fx_ok X (ft_137_1 X pc) (ez_t137_1 pc) := by
  delta ft_137_1 ez_t137_1
  exact fx_cnd (fx_cnd (fx_cnd (fx_cnd (fun _ _ _ _ _ _ _ _ => rfl) fx_no) (fx_cnd (fx_cnd (fun _ _ _ _ _ _ _ _ => rfl) fx_no) (fx_cnd (fun _ _ _ _ _ _ _ _ => rfl) fx_no))) (fx_cnd (fx_cnd (fun _ _ _ _ _ _ _ _ => rfl) fx_no) (fx_cnd (fx_cnd (fun _ _ _ _ _ _ _ _ => rfl) fx_no) (fx_cnd (fun _ _ _ _ _ _ _ _ => rfl) fx_no)))) (fx_cnd (fx_cnd (fx_cnd (fun _ _ _ _ _ _ _ _ => rfl) fx_no) (fx_cnd (fx_cnd (fun _ _ _ _ _ _ _ _ => rfl) fx_no) (fx_cnd (fun _ _ _ _ _ _ _ _ => rfl) fx_no))) (fx_cnd (fx_cnd (fun _ _ _ _ _ _ _ _ => rfl) fx_no) (fx_cnd (fx_cnd (fun _ _ _ _ _ _ _ _ => rfl) fx_no) (fx_cnd (fun _ _ _ _ _ _ _ _ => rfl) fx_no))))
theorem fk_137 (X : ez_X) (pc : Nat) : fx_ok X (ft_137 X pc) (ez_t137 pc) := by
  delta ft_137 ez_t137
  exact fx_cnd (fk_137_0 X pc) (fk_137_1 X pc)
theorem fk_138 (X : ez_X) (pc : Nat) : fx_ok X (ft_138 X pc) (ez_t138 pc) := by
  delta ft_138 ez_t138
  exact fx_cnd (fx_cnd (fx_cnd (fun _ _ _ _ _ _ _ _ => rfl) fx_no) (fx_cnd (fun _ _ _ _ _ _ _ _ => rfl) fx_no)) (fx_cnd (fx_cnd (fun _ _ _ _ _ _ _ _ => rfl) fx_no) (fx_cnd (fx_cnd (fun _ _ _ _ _ _ _ _ => rfl) fx_no) (fx_cnd (fun _ _ _ _ _ _ _ _ => rfl) fx_no)))
theorem fk_139 (X : ez_X) (pc : Nat) : fx_ok X (ft_139 X pc) (ez_t139 pc) := by
  delta ft_139 ez_t139
  exact fx_cnd (fx_cnd (fx_cnd (fun _ _ _ _ _ _ _ _ => rfl) fx_no) (fx_cnd (fun _ _ _ _ _ _ _ _ => rfl) fx_no)) (fx_cnd (fx_cnd (fun _ _ _ _ _ _ _ _ => rfl) fx_no) (fx_cnd (fun _ _ _ _ _ _ _ _ => rfl) fx_no))
theorem fk_140_0 (X : ez_X) (pc : Nat) : fx_ok X (ft_140_0 X pc) (ez_t140_0 pc) := by
  delta ft_140_0 ez_t140_0
  exact fx_cnd (fx_cnd (fx_cnd (fun _ _ _ _ _ _ _ _ => rfl) fx_no) (fx_cnd (fx_cnd (fun _ _ _ _ _ _ _ _ => rfl) fx_no) (fx_cnd (fun _ _ _ _ _ _ _ _ => rfl) fx_no))) (fx_cnd (fx_cnd (fun _ _ _ _ _ _ _ _ => rfl) fx_no) (fx_cnd (fx_cnd (fun _ _ _ _ _ _ _ _ => rfl) fx_no) (fx_cnd (fun _ _ _ _ _ _ _ _ => rfl) fx_no)))
theorem fk_140_1 (X : ez_X) (pc : Nat) : fx_ok X (ft_140_1 X pc) (ez_t140_1 pc) := by
  delta ft_140_1 ez_t140_1
  exact fx_cnd (fx_cnd (fx_cnd (fun _ _ _ _ _ _ _ _ => rfl) fx_no) (fx_cnd (fx_cnd (fun _ _ _ _ _ _ _ _ => rfl) fx_no) (fx_cnd (fun _ _ _ _ _ _ _ _ => rfl) fx_no))) (fx_cnd (fx_cnd (fx_cnd (fun _ _ _ _ _ _ _ _ => rfl) fx_no) (fx_cnd (fun _ _ _ _ _ _ _ _ => rfl) fx_no)) (fx_cnd (fx_cnd (fun _ _ _ _ _ _ _ _ => rfl) fx_no) (fx_cnd (fun _ _ _ _ _ _ _ _ => rfl) fx_no)))
theorem fk_140_2 (X : ez_X) (pc : Nat) : fx_ok X (ft_140_2 X pc) (ez_t140_2 pc) := by
  delta ft_140_2 ez_t140_2
  exact fx_cnd (fk_140_0 X pc) (fk_140_1 X pc)
theorem fk_140_3 (X : ez_X) (pc : Nat) : fx_ok X (ft_140_3 X pc) (ez_t140_3 pc) := by
  delta ft_140_3 ez_t140_3
  exact fx_cnd (fx_cnd (fx_cnd (fun _ _ _ _ _ _ _ _ => rfl) fx_no) (fx_cnd (fx_cnd (fun _ _ _ _ _ _ _ _ => rfl) fx_no) (fx_cnd (fun _ _ _ _ _ _ _ _ => rfl) fx_no))) (fx_cnd (fx_cnd (fx_cnd (fun _ _ _ _ _ _ _ _ => rfl) fx_no) (fx_cnd (fun _ _ _ _ _ _ _ _ => rfl) fx_no)) (fx_cnd (fx_cnd (fun _ _ _ _ _ _ _ _ => rfl) fx_no) (fx_cnd (fun _ _ _ _ _ _ _ _ => rfl) fx_no)))
theorem fk_140_4 (X : ez_X) (pc : Nat) : fx_ok X (ft_140_4 X pc) (ez_t140_4 pc) := by
  delta ft_140_4 ez_t140_4
  exact fx_cnd (fx_cnd (fx_cnd (fun _ _ _ _ _ _ _ _ => rfl) fx_no) (fx_cnd (fx_cnd (fun _ _ _ _ _ _ _ _ => rfl) fx_no) (fx_cnd (fun _ _ _ _ _ _ _ _ => rfl) fx_no))) (fx_cnd (fx_cnd (fx_cnd (fun _ _ _ _ _ _ _ _ => rfl) fx_no) (fx_cnd (fun _ _ _ _ _ _ _ _ => rfl) fx_no)) (fx_cnd (fx_cnd (fun _ _ _ _ _ _ _ _ => rfl) fx_no) (fx_cnd (fun _ _ _ _ _ _ _ _ => rfl) fx_no)))
theorem fk_140_5 (X : ez_X) (pc : Nat) : fx_ok X (ft_140_5 X pc) (ez_t140_5 pc) := by
  delta ft_140_5 ez_t140_5
  exact fx_cnd (fk_140_3 X pc) (fk_140_4 X pc)
theorem fk_140_6 (X : ez_X) (pc : Nat) : fx_ok X (ft_140_6 X pc) (ez_t140_6 pc) := by
  delta ft_140_6 ez_t140_6
  exact fx_cnd (fk_140_2 X pc) (fk_140_5 X pc)
theorem fk_140_7 (X : ez_X) (pc : Nat) : fx_ok X (ft_140_7 X pc) (ez_t140_7 pc) := by
  delta ft_140_7 ez_t140_7
  exact fx_cnd (fx_cnd (fx_cnd (fun _ _ _ _ _ _ _ _ => rfl) fx_no) (fx_cnd (fx_cnd (fun _ _ _ _ _ _ _ _ => rfl) fx_no) (fx_cnd (fun _ _ _ _ _ _ _ _ => rfl) fx_no))) (fx_cnd (fx_cnd (fun _ _ _ _ _ _ _ _ => rfl) fx_no) (fx_cnd (fx_cnd (fun _ _ _ _ _ _ _ _ => rfl) fx_no) (fx_cnd (fun _ _ _ _ _ _ _ _ => rfl) fx_no)))
theorem fk_140_8 (X : ez_X) (pc : Nat) : fx_ok X (ft_140_8 X pc) (ez_t140_8 pc) := by
  delta ft_140_8 ez_t140_8
  exact fx_cnd (fx_cnd (fx_cnd (fun _ _ _ _ _ _ _ _ => rfl) fx_no) (fx_cnd (fx_cnd (fun _ _ _ _ _ _ _ _ => rfl) fx_no) (fx_cnd (fun _ _ _ _ _ _ _ _ => rfl) fx_no))) (fx_cnd (fx_cnd (fx_cnd (fun _ _ _ _ _ _ _ _ => rfl) fx_no) (fx_cnd (fun _ _ _ _ _ _ _ _ => rfl) fx_no)) (fx_cnd (fx_cnd (fun _ _ _ _ _ _ _ _ => rfl) fx_no) (fx_cnd (fun _ _ _ _ _ _ _ _ => rfl) fx_no)))
theorem fk_140_9 (X : ez_X) (pc : Nat) : fx_ok X (ft_140_9 X pc) (ez_t140_9 pc) := by
  delta ft_140_9 ez_t140_9
  exact fx_cnd (fk_140_7 X pc) (fk_140_8 X pc)
theorem fk_140_10 (X : ez_X) (pc : Nat) : fx_ok X (ft_140_10 X pc) (ez_t140_10 pc) := by
  delta ft_140_10 ez_t140_10
  exact fx_cnd (fx_cnd (fx_cnd (fun _ _ _ _ _ _ _ _ => rfl) fx_no) (fx_cnd (fx_cnd (fun _ _ _ _ _ _ _ _ => rfl) fx_no) (fx_cnd (fun _ _ _ _ _ _ _ _ => rfl) fx_no))) (fx_cnd (fx_cnd (fx_cnd (fun _ _ _ _ _ _ _ _ => rfl) fx_no) (fx_cnd (fun _ _ _ _ _ _ _ _ => rfl) fx_no)) (fx_cnd (fx_cnd (fun _ _ _ _ _ _ _ _ => rfl) fx_no) (fx_cnd (fun _ _ _ _ _ _ _ _ => rfl) fx_no)))
theorem fk_140_11 (X : ez_X) (pc : Nat) : fx_ok X (ft_140_11 X pc) (ez_t140_11 pc) := by
  delta ft_140_11 ez_t140_11
  exact fx_cnd (fx_cnd (fx_cnd (fun _ _ _ _ _ _ _ _ => rfl) fx_no) (fx_cnd (fx_cnd (fun _ _ _ _ _ _ _ _ => rfl) fx_no) (fx_cnd (fun _ _ _ _ _ _ _ _ => rfl) fx_no))) (fx_cnd (fx_cnd (fx_cnd (fun _ _ _ _ _ _ _ _ => rfl) fx_no) (fx_cnd (fun _ _ _ _ _ _ _ _ => rfl) fx_no)) (fx_cnd (fx_cnd (fun _ _ _ _ _ _ _ _ => rfl) fx_no) (fx_cnd (fun _ _ _ _ _ _ _ _ => rfl) fx_no)))
theorem fk_140_12 (X : ez_X) (pc : Nat) : fx_ok X (ft_140_12 X pc) (ez_t140_12 pc) := by
  delta ft_140_12 ez_t140_12
  exact fx_cnd (fk_140_10 X pc) (fk_140_11 X pc)
theorem fk_140_13 (X : ez_X) (pc : Nat) : fx_ok X (ft_140_13 X pc) (ez_t140_13 pc) := by
  delta ft_140_13 ez_t140_13
  exact fx_cnd (fk_140_9 X pc) (fk_140_12 X pc)
theorem fk_140 (X : ez_X) (pc : Nat) : fx_ok X (ft_140 X pc) (ez_t140 pc) := by
  delta ft_140 ez_t140
  exact fx_cnd (fk_140_6 X pc) (fk_140_13 X pc)
theorem fk_141_0 (X : ez_X) (pc : Nat) : fx_ok X (ft_141_0 X pc) (ez_t141_0 pc) := by
  delta ft_141_0 ez_t141_0
  exact fx_cnd (fx_cnd (fx_cnd (fx_cnd (fun _ _ _ _ _ _ _ _ => rfl) fx_no) (fx_cnd (fun _ _ _ _ _ _ _ _ => rfl) fx_no)) (fx_cnd (fx_cnd (fun _ _ _ _ _ _ _ _ => rfl) fx_no) (fx_cnd (fun _ _ _ _ _ _ _ _ => rfl) fx_no))) (fx_cnd (fx_cnd (fx_cnd (fun _ _ _ _ _ _ _ _ => rfl) fx_no) (fx_cnd (fun _ _ _ _ _ _ _ _ => rfl) fx_no)) (fx_cnd (fx_cnd (fun _ _ _ _ _ _ _ _ => rfl) fx_no) (fx_cnd (fx_cnd (fun _ _ _ _ _ _ _ _ => rfl) fx_no) (fx_cnd (fun _ _ _ _ _ _ _ _ => rfl) fx_no))))
theorem fk_141_1 (X : ez_X) (pc : Nat) : fx_ok X (ft_141_1 X pc) (ez_t141_1 pc) := by
  delta ft_141_1 ez_t141_1
  exact fx_cnd (fx_cnd (fx_cnd (fx_cnd (fun _ _ _ _ _ _ _ _ => rfl) fx_no) (fx_cnd (fun _ _ _ _ _ _ _ _ => rfl) fx_no)) (fx_cnd (fx_cnd (fun _ _ _ _ _ _ _ _ => rfl) fx_no) (fx_cnd (fx_cnd (fun _ _ _ _ _ _ _ _ => rfl) fx_no) (fx_cnd (fun _ _ _ _ _ _ _ _ => rfl) fx_no)))) (fx_cnd (fx_cnd (fx_cnd (fun _ _ _ _ _ _ _ _ => rfl) fx_no) (fx_cnd (fun _ _ _ _ _ _ _ _ => rfl) fx_no)) (fx_cnd (fx_cnd (fun _ _ _ _ _ _ _ _ => rfl) fx_no) (fx_cnd (fx_cnd (fun _ _ _ _ _ _ _ _ => rfl) fx_no) (fx_cnd (fun _ _ _ _ _ _ _ _ => rfl) fx_no))))
theorem fk_141_2 (X : ez_X) (pc : Nat) : fx_ok X (ft_141_2 X pc) (ez_t141_2 pc) := by
  delta ft_141_2 ez_t141_2
  exact fx_cnd (fk_141_0 X pc) (fk_141_1 X pc)
theorem fk_141_3 (X : ez_X) (pc : Nat) : fx_ok X (ft_141_3 X pc) (ez_t141_3 pc) := by
  delta ft_141_3 ez_t141_3
  exact fx_cnd (fx_cnd (fx_cnd (fx_cnd (fun _ _ _ _ _ _ _ _ => rfl) fx_no) (fx_cnd (fun _ _ _ _ _ _ _ _ => rfl) fx_no)) (fx_cnd (fx_cnd (fun _ _ _ _ _ _ _ _ => rfl) fx_no) (fx_cnd (fun _ _ _ _ _ _ _ _ => rfl) fx_no))) (fx_cnd (fx_cnd (fx_cnd (fun _ _ _ _ _ _ _ _ => rfl) fx_no) (fx_cnd (fun _ _ _ _ _ _ _ _ => rfl) fx_no)) (fx_cnd (fx_cnd (fun _ _ _ _ _ _ _ _ => rfl) fx_no) (fx_cnd (fx_cnd (fun _ _ _ _ _ _ _ _ => rfl) fx_no) (fx_cnd (fun _ _ _ _ _ _ _ _ => rfl) fx_no))))
theorem fk_141_4 (X : ez_X) (pc : Nat) : fx_ok X (ft_141_4 X pc) (ez_t141_4 pc) := by
  delta ft_141_4 ez_t141_4
  exact fx_cnd (fx_cnd (fx_cnd (fx_cnd (fun _ _ _ _ _ _ _ _ => rfl) fx_no) (fx_cnd (fun _ _ _ _ _ _ _ _ => rfl) fx_no)) (fx_cnd (fx_cnd (fun _ _ _ _ _ _ _ _ => rfl) fx_no) (fx_cnd (fx_cnd (fun _ _ _ _ _ _ _ _ => rfl) fx_no) (fx_cnd (fun _ _ _ _ _ _ _ _ => rfl) fx_no)))) (fx_cnd (fx_cnd (fx_cnd (fun _ _ _ _ _ _ _ _ => rfl) fx_no) (fx_cnd (fun _ _ _ _ _ _ _ _ => rfl) fx_no)) (fx_cnd (fx_cnd (fun _ _ _ _ _ _ _ _ => rfl) fx_no) (fx_cnd (fx_cnd (fun _ _ _ _ _ _ _ _ => rfl) fx_no) (fx_cnd (fun _ _ _ _ _ _ _ _ => rfl) fx_no))))
theorem fk_141_5 (X : ez_X) (pc : Nat) : fx_ok X (ft_141_5 X pc) (ez_t141_5 pc) := by
  delta ft_141_5 ez_t141_5
  exact fx_cnd (fk_141_3 X pc) (fk_141_4 X pc)
theorem fk_141 (X : ez_X) (pc : Nat) : fx_ok X (ft_141 X pc) (ez_t141 pc) := by
  delta ft_141 ez_t141
  exact fx_cnd (fk_141_2 X pc) (fk_141_5 X pc)
theorem fk_142_0 (X : ez_X) (pc : Nat) : fx_ok X (ft_142_0 X pc) (ez_t142_0 pc) := by
  delta ft_142_0 ez_t142_0
  exact fx_cnd (fx_cnd (fx_cnd (fx_cnd (fun _ _ _ _ _ _ _ _ => rfl) fx_no) (fx_cnd (fun _ _ _ _ _ _ _ _ => rfl) fx_no)) (fx_cnd (fx_cnd (fun _ _ _ _ _ _ _ _ => rfl) fx_no) (fx_cnd (fun _ _ _ _ _ _ _ _ => rfl) fx_no))) (fx_cnd (fx_cnd (fx_cnd (fun _ _ _ _ _ _ _ _ => rfl) fx_no) (fx_cnd (fun _ _ _ _ _ _ _ _ => rfl) fx_no)) (fx_cnd (fx_cnd (fun _ _ _ _ _ _ _ _ => rfl) fx_no) (fx_cnd (fx_cnd (fun _ _ _ _ _ _ _ _ => rfl) fx_no) (fx_cnd (fun _ _ _ _ _ _ _ _ => rfl) fx_no))))
theorem fk_142_1 (X : ez_X) (pc : Nat) : fx_ok X (ft_142_1 X pc) (ez_t142_1 pc) := by
  delta ft_142_1 ez_t142_1
  exact fx_cnd (fx_cnd (fx_cnd (fx_cnd (fun _ _ _ _ _ _ _ _ => rfl) fx_no) (fx_cnd (fun _ _ _ _ _ _ _ _ => rfl) fx_no)) (fx_cnd (fx_cnd (fun _ _ _ _ _ _ _ _ => rfl) fx_no) (fx_cnd (fx_cnd (fun _ _ _ _ _ _ _ _ => rfl) fx_no) (fx_cnd (fun _ _ _ _ _ _ _ _ => rfl) fx_no)))) (fx_cnd (fx_cnd (fx_cnd (fun _ _ _ _ _ _ _ _ => rfl) fx_no) (fx_cnd (fun _ _ _ _ _ _ _ _ => rfl) fx_no)) (fx_cnd (fx_cnd (fun _ _ _ _ _ _ _ _ => rfl) fx_no) (fx_cnd (fx_cnd (fun _ _ _ _ _ _ _ _ => rfl) fx_no) (fx_cnd (fun _ _ _ _ _ _ _ _ => rfl) fx_no))))
theorem fk_142_2 (X : ez_X) (pc : Nat) : fx_ok X (ft_142_2 X pc) (ez_t142_2 pc) := by
  delta ft_142_2 ez_t142_2
  exact fx_cnd (fk_142_0 X pc) (fk_142_1 X pc)
theorem fk_142_3 (X : ez_X) (pc : Nat) : fx_ok X (ft_142_3 X pc) (ez_t142_3 pc) := by
  delta ft_142_3 ez_t142_3
  exact fx_cnd (fx_cnd (fx_cnd (fx_cnd (fun _ _ _ _ _ _ _ _ => rfl) fx_no) (fx_cnd (fun _ _ _ _ _ _ _ _ => rfl) fx_no)) (fx_cnd (fx_cnd (fun _ _ _ _ _ _ _ _ => rfl) fx_no) (fx_cnd (fx_cnd (fun _ _ _ _ _ _ _ _ => rfl) fx_no) (fx_cnd (fun _ _ _ _ _ _ _ _ => rfl) fx_no)))) (fx_cnd (fx_cnd (fx_cnd (fun _ _ _ _ _ _ _ _ => rfl) fx_no) (fx_cnd (fun _ _ _ _ _ _ _ _ => rfl) fx_no)) (fx_cnd (fx_cnd (fun _ _ _ _ _ _ _ _ => rfl) fx_no) (fx_cnd (fx_cnd (fun _ _ _ _ _ _ _ _ => rfl) fx_no) (fx_cnd (fun _ _ _ _ _ _ _ _ => rfl) fx_no))))
theorem fk_142_4 (X : ez_X) (pc : Nat) : fx_ok X (ft_142_4 X pc) (ez_t142_4 pc) := by
  delta ft_142_4 ez_t142_4
  exact fx_cnd (fx_cnd (fx_cnd (fx_cnd (fun _ _ _ _ _ _ _ _ => rfl) fx_no) (fx_cnd (fun _ _ _ _ _ _ _ _ => rfl) fx_no)) (fx_cnd (fx_cnd (fun _ _ _ _ _ _ _ _ => rfl) fx_no) (fx_cnd (fx_cnd (fun _ _ _ _ _ _ _ _ => rfl) fx_no) (fx_cnd (fun _ _ _ _ _ _ _ _ => rfl) fx_no)))) (fx_cnd (fx_cnd (fx_cnd (fun _ _ _ _ _ _ _ _ => rfl) fx_no) (fx_cnd (fun _ _ _ _ _ _ _ _ => rfl) fx_no)) (fx_cnd (fx_cnd (fun _ _ _ _ _ _ _ _ => rfl) fx_no) (fx_cnd (fx_cnd (fun _ _ _ _ _ _ _ _ => rfl) fx_no) (fx_cnd (fun _ _ _ _ _ _ _ _ => rfl) fx_no))))
theorem fk_142_5 (X : ez_X) (pc : Nat) : fx_ok X (ft_142_5 X pc) (ez_t142_5 pc) := by
  delta ft_142_5 ez_t142_5
  exact fx_cnd (fk_142_3 X pc) (fk_142_4 X pc)
theorem fk_142 (X : ez_X) (pc : Nat) : fx_ok X (ft_142 X pc) (ez_t142 pc) := by
  delta ft_142 ez_t142
  exact fx_cnd (fk_142_2 X pc) (fk_142_5 X pc)
theorem fk_143_0 (X : ez_X) (pc : Nat) : fx_ok X (ft_143_0 X pc) (ez_t143_0 pc) := by
  delta ft_143_0 ez_t143_0
  exact fx_cnd (fx_cnd (fx_cnd (fx_cnd (fun _ _ _ _ _ _ _ _ => rfl) fx_no) (fx_cnd (fun _ _ _ _ _ _ _ _ => rfl) fx_no)) (fx_cnd (fx_cnd (fun _ _ _ _ _ _ _ _ => rfl) fx_no) (fx_cnd (fun _ _ _ _ _ _ _ _ => rfl) fx_no))) (fx_cnd (fx_cnd (fx_cnd (fun _ _ _ _ _ _ _ _ => rfl) fx_no) (fx_cnd (fun _ _ _ _ _ _ _ _ => rfl) fx_no)) (fx_cnd (fx_cnd (fun _ _ _ _ _ _ _ _ => rfl) fx_no) (fx_cnd (fun _ _ _ _ _ _ _ _ => rfl) fx_no)))
theorem fk_143_1 (X : ez_X) (pc : Nat) : fx_ok X (ft_143_1 X pc) (ez_t143_1 pc) := by
  delta ft_143_1 ez_t143_1
  exact fx_cnd (fx_cnd (fx_cnd (fx_cnd (fun _ _ _ _ _ _ _ _ => rfl) fx_no) (fx_cnd (fun _ _ _ _ _ _ _ _ => rfl) fx_no)) (fx_cnd (fx_cnd (fun _ _ _ _ _ _ _ _ => rfl) fx_no) (fx_cnd (fun _ _ _ _ _ _ _ _ => rfl) fx_no))) (fx_cnd (fx_cnd (fx_cnd (fun _ _ _ _ _ _ _ _ => rfl) fx_no) (fx_cnd (fun _ _ _ _ _ _ _ _ => rfl) fx_no)) (fx_cnd (fx_cnd (fun _ _ _ _ _ _ _ _ => rfl) fx_no) (fx_cnd (fx_cnd (fun _ _ _ _ _ _ _ _ => rfl) fx_no) (fx_cnd (fun _ _ _ _ _ _ _ _ => rfl) fx_no))))
theorem fk_143 (X : ez_X) (pc : Nat) : fx_ok X (ft_143 X pc) (ez_t143 pc) := by
  delta ft_143 ez_t143
  exact fx_cnd (fk_143_0 X pc) (fk_143_1 X pc)
theorem fk_144_0 (X : ez_X) (pc : Nat) : fx_ok X (ft_144_0 X pc) (ez_t144_0 pc) := by
  delta ft_144_0 ez_t144_0
  exact fx_cnd (fx_cnd (fx_cnd (fx_cnd (fun _ _ _ _ _ _ _ _ => rfl) fx_no) (fx_cnd (fun _ _ _ _ _ _ _ _ => rfl) fx_no)) (fx_cnd (fx_cnd (fun _ _ _ _ _ _ _ _ => rfl) fx_no) (fx_cnd (fx_cnd (fun _ _ _ _ _ _ _ _ => rfl) fx_no) (fx_cnd (fun _ _ _ _ _ _ _ _ => rfl) fx_no)))) (fx_cnd (fx_cnd (fx_cnd (fun _ _ _ _ _ _ _ _ => rfl) fx_no) (fx_cnd (fun _ _ _ _ _ _ _ _ => rfl) fx_no)) (fx_cnd (fx_cnd (fun _ _ _ _ _ _ _ _ => rfl) fx_no) (fx_cnd (fx_cnd (fun _ _ _ _ _ _ _ _ => rfl) fx_no) (fx_cnd (fun _ _ _ _ _ _ _ _ => rfl) fx_no))))
theorem fk_144_1 (X : ez_X) (pc : Nat) : fx_ok X (ft_144_1 X pc) (ez_t144_1 pc) := by
  delta ft_144_1 ez_t144_1
  exact fx_cnd (fx_cnd (fx_cnd (fx_cnd (fun _ _ _ _ _ _ _ _ => rfl) fx_no) (fx_cnd (fun _ _ _ _ _ _ _ _ => rfl) fx_no)) (fx_cnd (fx_cnd (fun _ _ _ _ _ _ _ _ => rfl) fx_no) (fx_cnd (fx_cnd (fun _ _ _ _ _ _ _ _ => rfl) fx_no) (fx_cnd (fun _ _ _ _ _ _ _ _ => rfl) fx_no)))) (fx_cnd (fx_cnd (fx_cnd (fun _ _ _ _ _ _ _ _ => rfl) fx_no) (fx_cnd (fun _ _ _ _ _ _ _ _ => rfl) fx_no)) (fx_cnd (fx_cnd (fun _ _ _ _ _ _ _ _ => rfl) fx_no) (fx_cnd (fx_cnd (fun _ _ _ _ _ _ _ _ => rfl) fx_no) (fx_cnd (fun _ _ _ _ _ _ _ _ => rfl) fx_no))))
theorem fk_144_2 (X : ez_X) (pc : Nat) : fx_ok X (ft_144_2 X pc) (ez_t144_2 pc) := by
  delta ft_144_2 ez_t144_2
  exact fx_cnd (fk_144_0 X pc) (fk_144_1 X pc)
theorem fk_144_3 (X : ez_X) (pc : Nat) : fx_ok X (ft_144_3 X pc) (ez_t144_3 pc) := by
  delta ft_144_3 ez_t144_3
  exact fx_cnd (fx_cnd (fx_cnd (fx_cnd (fun _ _ _ _ _ _ _ _ => rfl) fx_no) (fx_cnd (fun _ _ _ _ _ _ _ _ => rfl) fx_no)) (fx_cnd (fx_cnd (fun _ _ _ _ _ _ _ _ => rfl) fx_no) (fx_cnd (fx_cnd (fun _ _ _ _ _ _ _ _ => rfl) fx_no) (fx_cnd (fun _ _ _ _ _ _ _ _ => rfl) fx_no)))) (fx_cnd (fx_cnd (fx_cnd (fun _ _ _ _ _ _ _ _ => rfl) fx_no) (fx_cnd (fun _ _ _ _ _ _ _ _ => rfl) fx_no)) (fx_cnd (fx_cnd (fun _ _ _ _ _ _ _ _ => rfl) fx_no) (fx_cnd (fx_cnd (fun _ _ _ _ _ _ _ _ => rfl) fx_no) (fx_cnd (fun _ _ _ _ _ _ _ _ => rfl) fx_no))))
theorem fk_144_4 (X : ez_X) (pc : Nat) : fx_ok X (ft_144_4 X pc) (ez_t144_4 pc) := by
  delta ft_144_4 ez_t144_4
  exact fx_cnd (fx_cnd (fx_cnd (fx_cnd (fun _ _ _ _ _ _ _ _ => rfl) fx_no) (fx_cnd (fun _ _ _ _ _ _ _ _ => rfl) fx_no)) (fx_cnd (fx_cnd (fun _ _ _ _ _ _ _ _ => rfl) fx_no) (fx_cnd (fx_cnd (fun _ _ _ _ _ _ _ _ => rfl) fx_no) (fx_cnd (fun _ _ _ _ _ _ _ _ => rfl) fx_no)))) (fx_cnd (fx_cnd (fx_cnd (fun _ _ _ _ _ _ _ _ => rfl) fx_no) (fx_cnd (fun _ _ _ _ _ _ _ _ => rfl) fx_no)) (fx_cnd (fx_cnd (fun _ _ _ _ _ _ _ _ => rfl) fx_no) (fx_cnd (fx_cnd (fun _ _ _ _ _ _ _ _ => rfl) fx_no) (fx_cnd (fun _ _ _ _ _ _ _ _ => rfl) fx_no))))
theorem fk_144_5 (X : ez_X) (pc : Nat) : fx_ok X (ft_144_5 X pc) (ez_t144_5 pc) := by
  delta ft_144_5 ez_t144_5
  exact fx_cnd (fk_144_3 X pc) (fk_144_4 X pc)
theorem fk_144 (X : ez_X) (pc : Nat) : fx_ok X (ft_144 X pc) (ez_t144 pc) := by
  delta ft_144 ez_t144
  exact fx_cnd (fk_144_2 X pc) (fk_144_5 X pc)
theorem fk_145_0 (X : ez_X) (pc : Nat) : fx_ok X (ft_145_0 X pc) (ez_t145_0 pc) := by
  delta ft_145_0 ez_t145_0
  exact fx_cnd (fx_cnd (fx_cnd (fun _ _ _ _ _ _ _ _ => rfl) fx_no) (fx_cnd (fx_cnd (fun _ _ _ _ _ _ _ _ => rfl) fx_no) (fx_cnd (fun _ _ _ _ _ _ _ _ => rfl) fx_no))) (fx_cnd (fx_cnd (fx_cnd (fun _ _ _ _ _ _ _ _ => rfl) fx_no) (fx_cnd (fun _ _ _ _ _ _ _ _ => rfl) fx_no)) (fx_cnd (fx_cnd (fun _ _ _ _ _ _ _ _ => rfl) fx_no) (fx_cnd (fun _ _ _ _ _ _ _ _ => rfl) fx_no)))
theorem fk_145_1 (X : ez_X) (pc : Nat) : fx_ok X (ft_145_1 X pc) (ez_t145_1 pc) := by
  delta ft_145_1 ez_t145_1
  exact fx_cnd (fx_cnd (fx_cnd (fun _ _ _ _ _ _ _ _ => rfl) fx_no) (fx_cnd (fx_cnd (fun _ _ _ _ _ _ _ _ => rfl) fx_no) (fx_cnd (fun _ _ _ _ _ _ _ _ => rfl) fx_no))) (fx_cnd (fx_cnd (fx_cnd (fun _ _ _ _ _ _ _ _ => rfl) fx_no) (fx_cnd (fun _ _ _ _ _ _ _ _ => rfl) fx_no)) (fx_cnd (fx_cnd (fun _ _ _ _ _ _ _ _ => rfl) fx_no) (fx_cnd (fun _ _ _ _ _ _ _ _ => rfl) fx_no)))
theorem fk_145_2 (X : ez_X) (pc : Nat) : fx_ok X (ft_145_2 X pc) (ez_t145_2 pc) := by
  delta ft_145_2 ez_t145_2
  exact fx_cnd (fk_145_0 X pc) (fk_145_1 X pc)
theorem fk_145_3 (X : ez_X) (pc : Nat) : fx_ok X (ft_145_3 X pc) (ez_t145_3 pc) := by
  delta ft_145_3 ez_t145_3
  exact fx_cnd (fx_cnd (fx_cnd (fun _ _ _ _ _ _ _ _ => rfl) fx_no) (fx_cnd (fx_cnd (fun _ _ _ _ _ _ _ _ => rfl) fx_no) (fx_cnd (fun _ _ _ _ _ _ _ _ => rfl) fx_no))) (fx_cnd (fx_cnd (fx_cnd (fun _ _ _ _ _ _ _ _ => rfl) fx_no) (fx_cnd (fun _ _ _ _ _ _ _ _ => rfl) fx_no)) (fx_cnd (fx_cnd (fun _ _ _ _ _ _ _ _ => rfl) fx_no) (fx_cnd (fun _ _ _ _ _ _ _ _ => rfl) fx_no)))
theorem fk_145_4 (X : ez_X) (pc : Nat) : fx_ok X (ft_145_4 X pc) (ez_t145_4 pc) := by
  delta ft_145_4 ez_t145_4
  exact fx_cnd (fx_cnd (fx_cnd (fun _ _ _ _ _ _ _ _ => rfl) fx_no) (fx_cnd (fx_cnd (fun _ _ _ _ _ _ _ _ => rfl) fx_no) (fx_cnd (fun _ _ _ _ _ _ _ _ => rfl) fx_no))) (fx_cnd (fx_cnd (fx_cnd (fun _ _ _ _ _ _ _ _ => rfl) fx_no) (fx_cnd (fun _ _ _ _ _ _ _ _ => rfl) fx_no)) (fx_cnd (fx_cnd (fun _ _ _ _ _ _ _ _ => rfl) fx_no) (fx_cnd (fun _ _ _ _ _ _ _ _ => rfl) fx_no)))
theorem fk_145_5 (X : ez_X) (pc : Nat) : fx_ok X (ft_145_5 X pc) (ez_t145_5 pc) := by
  delta ft_145_5 ez_t145_5
  exact fx_cnd (fk_145_3 X pc) (fk_145_4 X pc)
theorem fk_145_6 (X : ez_X) (pc : Nat) : fx_ok X (ft_145_6 X pc) (ez_t145_6 pc) := by
  delta ft_145_6 ez_t145_6
  exact fx_cnd (fk_145_2 X pc) (fk_145_5 X pc)
theorem fk_145_7 (X : ez_X) (pc : Nat) : fx_ok X (ft_145_7 X pc) (ez_t145_7 pc) := by
  delta ft_145_7 ez_t145_7
  exact fx_cnd (fx_cnd (fx_cnd (fun _ _ _ _ _ _ _ _ => rfl) fx_no) (fx_cnd (fx_cnd (fun _ _ _ _ _ _ _ _ => rfl) fx_no) (fx_cnd (fun _ _ _ _ _ _ _ _ => rfl) fx_no))) (fx_cnd (fx_cnd (fx_cnd (fun _ _ _ _ _ _ _ _ => rfl) fx_no) (fx_cnd (fun _ _ _ _ _ _ _ _ => rfl) fx_no)) (fx_cnd (fx_cnd (fun _ _ _ _ _ _ _ _ => rfl) fx_no) (fx_cnd (fun _ _ _ _ _ _ _ _ => rfl) fx_no)))
theorem fk_145_8 (X : ez_X) (pc : Nat) : fx_ok X (ft_145_8 X pc) (ez_t145_8 pc) := by
  delta ft_145_8 ez_t145_8
  exact fx_cnd (fx_cnd (fx_cnd (fun _ _ _ _ _ _ _ _ => rfl) fx_no) (fx_cnd (fx_cnd (fun _ _ _ _ _ _ _ _ => rfl) fx_no) (fx_cnd (fun _ _ _ _ _ _ _ _ => rfl) fx_no))) (fx_cnd (fx_cnd (fx_cnd (fun _ _ _ _ _ _ _ _ => rfl) fx_no) (fx_cnd (fun _ _ _ _ _ _ _ _ => rfl) fx_no)) (fx_cnd (fx_cnd (fun _ _ _ _ _ _ _ _ => rfl) fx_no) (fx_cnd (fun _ _ _ _ _ _ _ _ => rfl) fx_no)))
theorem fk_145_9 (X : ez_X) (pc : Nat) : fx_ok X (ft_145_9 X pc) (ez_t145_9 pc) := by
  delta ft_145_9 ez_t145_9
  exact fx_cnd (fk_145_7 X pc) (fk_145_8 X pc)
theorem fk_145_10 (X : ez_X) (pc : Nat) : fx_ok X (ft_145_10 X pc) (ez_t145_10 pc) := by
  delta ft_145_10 ez_t145_10
  exact fx_cnd (fx_cnd (fx_cnd (fun _ _ _ _ _ _ _ _ => rfl) fx_no) (fx_cnd (fx_cnd (fun _ _ _ _ _ _ _ _ => rfl) fx_no) (fx_cnd (fun _ _ _ _ _ _ _ _ => rfl) fx_no))) (fx_cnd (fx_cnd (fx_cnd (fun _ _ _ _ _ _ _ _ => rfl) fx_no) (fx_cnd (fun _ _ _ _ _ _ _ _ => rfl) fx_no)) (fx_cnd (fx_cnd (fun _ _ _ _ _ _ _ _ => rfl) fx_no) (fx_cnd (fun _ _ _ _ _ _ _ _ => rfl) fx_no)))
theorem fk_145_11 (X : ez_X) (pc : Nat) : fx_ok X (ft_145_11 X pc) (ez_t145_11 pc) := by
  delta ft_145_11 ez_t145_11
  exact fx_cnd (fx_cnd (fx_cnd (fx_cnd (fun _ _ _ _ _ _ _ _ => rfl) fx_no) (fx_cnd (fun _ _ _ _ _ _ _ _ => rfl) fx_no)) (fx_cnd (fx_cnd (fun _ _ _ _ _ _ _ _ => rfl) fx_no) (fx_cnd (fun _ _ _ _ _ _ _ _ => rfl) fx_no))) (fx_cnd (fx_cnd (fx_cnd (fun _ _ _ _ _ _ _ _ => rfl) fx_no) (fx_cnd (fun _ _ _ _ _ _ _ _ => rfl) fx_no)) (fx_cnd (fx_cnd (fun _ _ _ _ _ _ _ _ => rfl) fx_no) (fx_cnd (fun _ _ _ _ _ _ _ _ => rfl) fx_no)))
theorem fk_145_12 (X : ez_X) (pc : Nat) : fx_ok X (ft_145_12 X pc) (ez_t145_12 pc) := by
  delta ft_145_12 ez_t145_12
  exact fx_cnd (fk_145_10 X pc) (fk_145_11 X pc)
theorem fk_145_13 (X : ez_X) (pc : Nat) : fx_ok X (ft_145_13 X pc) (ez_t145_13 pc) := by
  delta ft_145_13 ez_t145_13
  exact fx_cnd (fk_145_9 X pc) (fk_145_12 X pc)
theorem fk_145 (X : ez_X) (pc : Nat) : fx_ok X (ft_145 X pc) (ez_t145 pc) := by
  delta ft_145 ez_t145
  exact fx_cnd (fk_145_6 X pc) (fk_145_13 X pc)
theorem fk_146 (X : ez_X) (pc : Nat) : fx_ok X (ft_146 X pc) (ez_t146 pc) := by
  delta ft_146 ez_t146
  exact fx_cnd (fx_cnd (fx_cnd (fx_cnd (fun _ _ _ _ _ _ _ _ => rfl) fx_no) (fx_cnd (fx_cnd (fun _ _ _ _ _ _ _ _ => rfl) fx_no) (fx_cnd (fun _ _ _ _ _ _ _ _ => rfl) fx_no))) (fx_cnd (fx_cnd (fun _ _ _ _ _ _ _ _ => rfl) fx_no) (fx_cnd (fx_cnd (fun _ _ _ _ _ _ _ _ => rfl) fx_no) (fx_cnd (fun _ _ _ _ _ _ _ _ => rfl) fx_no)))) (fx_cnd (fx_cnd (fx_cnd (fun _ _ _ _ _ _ _ _ => rfl) fx_no) (fx_cnd (fx_cnd (fun _ _ _ _ _ _ _ _ => rfl) fx_no) (fx_cnd (fun _ _ _ _ _ _ _ _ => rfl) fx_no))) (fx_cnd (fx_cnd (fun _ _ _ _ _ _ _ _ => rfl) fx_no) (fx_cnd (fx_cnd (fun _ _ _ _ _ _ _ _ => rfl) fx_no) (fx_cnd (fun _ _ _ _ _ _ _ _ => rfl) fx_no))))
theorem fk_147_0 (X : ez_X) (pc : Nat) : fx_ok X (ft_147_0 X pc) (ez_t147_0 pc) := by
  delta ft_147_0 ez_t147_0
  exact fx_cnd (fx_cnd (fx_cnd (fx_cnd (fun _ _ _ _ _ _ _ _ => rfl) fx_no) (fx_cnd (fx_cnd (fun _ _ _ _ _ _ _ _ => rfl) fx_no) (fx_cnd (fun _ _ _ _ _ _ _ _ => rfl) fx_no))) (fx_cnd (fx_cnd (fun _ _ _ _ _ _ _ _ => rfl) fx_no) (fx_cnd (fx_cnd (fun _ _ _ _ _ _ _ _ => rfl) fx_no) (fx_cnd (fun _ _ _ _ _ _ _ _ => rfl) fx_no)))) (fx_cnd (fx_cnd (fx_cnd (fun _ _ _ _ _ _ _ _ => rfl) fx_no) (fx_cnd (fx_cnd (fun _ _ _ _ _ _ _ _ => rfl) fx_no) (fx_cnd (fun _ _ _ _ _ _ _ _ => rfl) fx_no))) (fx_cnd (fx_cnd (fun _ _ _ _ _ _ _ _ => rfl) fx_no) (fx_cnd (fx_cnd (fun _ _ _ _ _ _ _ _ => rfl) fx_no) (fx_cnd (fun _ _ _ _ _ _ _ _ => rfl) fx_no))))
theorem fk_147_1 (X : ez_X) (pc : Nat) : fx_ok X (ft_147_1 X pc) (ez_t147_1 pc) := by
  delta ft_147_1 ez_t147_1
  exact fx_cnd (fx_cnd (fx_cnd (fx_cnd (fun _ _ _ _ _ _ _ _ => rfl) fx_no) (fx_cnd (fx_cnd (fun _ _ _ _ _ _ _ _ => rfl) fx_no) (fx_cnd (fun _ _ _ _ _ _ _ _ => rfl) fx_no))) (fx_cnd (fx_cnd (fun _ _ _ _ _ _ _ _ => rfl) fx_no) (fx_cnd (fx_cnd (fun _ _ _ _ _ _ _ _ => rfl) fx_no) (fx_cnd (fun _ _ _ _ _ _ _ _ => rfl) fx_no)))) (fx_cnd (fx_cnd (fx_cnd (fun _ _ _ _ _ _ _ _ => rfl) fx_no) (fx_cnd (fx_cnd (fun _ _ _ _ _ _ _ _ => rfl) fx_no) (fx_cnd (fun _ _ _ _ _ _ _ _ => rfl) fx_no))) (fx_cnd (fx_cnd (fun _ _ _ _ _ _ _ _ => rfl) fx_no) (fx_cnd (fx_cnd (fun _ _ _ _ _ _ _ _ => rfl) fx_no) (fx_cnd (fun _ _ _ _ _ _ _ _ => rfl) fx_no))))
theorem fk_147_2 (X : ez_X) (pc : Nat) : fx_ok X (ft_147_2 X pc) (ez_t147_2 pc) := by
  delta ft_147_2 ez_t147_2
  exact fx_cnd (fk_147_0 X pc) (fk_147_1 X pc)
theorem fk_147_3 (X : ez_X) (pc : Nat) : fx_ok X (ft_147_3 X pc) (ez_t147_3 pc) := by
  delta ft_147_3 ez_t147_3
  exact fx_cnd (fx_cnd (fx_cnd (fx_cnd (fun _ _ _ _ _ _ _ _ => rfl) fx_no) (fx_cnd (fx_cnd (fun _ _ _ _ _ _ _ _ => rfl) fx_no) (fx_cnd (fun _ _ _ _ _ _ _ _ => rfl) fx_no))) (fx_cnd (fx_cnd (fun _ _ _ _ _ _ _ _ => rfl) fx_no) (fx_cnd (fx_cnd (fun _ _ _ _ _ _ _ _ => rfl) fx_no) (fx_cnd (fun _ _ _ _ _ _ _ _ => rfl) fx_no)))) (fx_cnd (fx_cnd (fx_cnd (fun _ _ _ _ _ _ _ _ => rfl) fx_no) (fx_cnd (fx_cnd (fun _ _ _ _ _ _ _ _ => rfl) fx_no) (fx_cnd (fun _ _ _ _ _ _ _ _ => rfl) fx_no))) (fx_cnd (fx_cnd (fun _ _ _ _ _ _ _ _ => rfl) fx_no) (fx_cnd (fx_cnd (fun _ _ _ _ _ _ _ _ => rfl) fx_no) (fx_cnd (fun _ _ _ _ _ _ _ _ => rfl) fx_no))))
theorem fk_147_4 (X : ez_X) (pc : Nat) : fx_ok X (ft_147_4 X pc) (ez_t147_4 pc) := by
  delta ft_147_4 ez_t147_4
  exact fx_cnd (fx_cnd (fx_cnd (fun _ _ _ _ _ _ _ _ => rfl) fx_no) (fx_cnd (fx_cnd (fun _ _ _ _ _ _ _ _ => rfl) fx_no) (fx_cnd (fun _ _ _ _ _ _ _ _ => rfl) fx_no))) (fx_cnd (fx_cnd (fun _ _ _ _ _ _ _ _ => rfl) fx_no) (fx_cnd (fx_cnd (fun _ _ _ _ _ _ _ _ => rfl) fx_no) (fx_cnd (fun _ _ _ _ _ _ _ _ => rfl) fx_no)))
theorem fk_147_5 (X : ez_X) (pc : Nat) : fx_ok X (ft_147_5 X pc) (ez_t147_5 pc) := by
  delta ft_147_5 ez_t147_5
  exact fx_cnd (fx_cnd (fx_cnd (fun _ _ _ _ _ _ _ _ => rfl) fx_no) (fx_cnd (fx_cnd (fun _ _ _ _ _ _ _ _ => rfl) fx_no) (fx_cnd (fun _ _ _ _ _ _ _ _ => rfl) fx_no))) (fx_cnd (fx_cnd (fx_cnd (fun _ _ _ _ _ _ _ _ => rfl) fx_no) (fx_cnd (fun _ _ _ _ _ _ _ _ => rfl) fx_no)) (fx_cnd (fx_cnd (fun _ _ _ _ _ _ _ _ => rfl) fx_no) (fx_cnd (fun _ _ _ _ _ _ _ _ => rfl) fx_no)))
theorem fk_147_6 (X : ez_X) (pc : Nat) : fx_ok X (ft_147_6 X pc) (ez_t147_6 pc) := by
  delta ft_147_6 ez_t147_6
  exact fx_cnd (fk_147_4 X pc) (fk_147_5 X pc)
theorem fk_147_7 (X : ez_X) (pc : Nat) : fx_ok X (ft_147_7 X pc) (ez_t147_7 pc) := by
  delta ft_147_7 ez_t147_7
  exact fx_cnd (fk_147_3 X pc) (fk_147_6 X pc)
theorem fk_147 (X : ez_X) (pc : Nat) : fx_ok X (ft_147 X pc) (ez_t147 pc) := by
  delta ft_147 ez_t147
  exact fx_cnd (fk_147_2 X pc) (fk_147_7 X pc)
theorem fk_148_0 (X : ez_X) (pc : Nat) : fx_ok X (ft_148_0 X pc) (ez_t148_0 pc) := by
  delta ft_148_0 ez_t148_0
  exact fx_cnd (fx_cnd (fx_cnd (fx_cnd (fun _ _ _ _ _ _ _ _ => rfl) fx_no) (fx_cnd (fun _ _ _ _ _ _ _ _ => rfl) fx_no)) (fx_cnd (fx_cnd (fun _ _ _ _ _ _ _ _ => rfl) fx_no) (fx_cnd (fx_cnd (fun _ _ _ _ _ _ _ _ => rfl) fx_no) (fx_cnd (fun _ _ _ _ _ _ _ _ => rfl) fx_no)))) (fx_cnd (fx_cnd (fx_cnd (fun _ _ _ _ _ _ _ _ => rfl) fx_no) (fx_cnd (fx_cnd (fun _ _ _ _ _ _ _ _ => rfl) fx_no) (fx_cnd (fun _ _ _ _ _ _ _ _ => rfl) fx_no))) (fx_cnd (fx_cnd (fun _ _ _ _ _ _ _ _ => rfl) fx_no) (fx_cnd (fx_cnd (fun _ _ _ _ _ _ _ _ => rfl) fx_no) (fx_cnd (fun _ _ _ _ _ _ _ _ => rfl) fx_no))))
theorem fk_148_1 (X : ez_X) (pc : Nat) : fx_ok X (ft_148_1 X pc) (ez_t148_1 pc) := by
  delta ft_148_1 ez_t148_1
  exact fx_cnd (fx_cnd (fx_cnd (fx_cnd (fun _ _ _ _ _ _ _ _ => rfl) fx_no) (fx_cnd (fx_cnd (fun _ _ _ _ _ _ _ _ => rfl) fx_no) (fx_cnd (fun _ _ _ _ _ _ _ _ => rfl) fx_no))) (fx_cnd (fx_cnd (fun _ _ _ _ _ _ _ _ => rfl) fx_no) (fx_cnd (fx_cnd (fun _ _ _ _ _ _ _ _ => rfl) fx_no) (fx_cnd (fun _ _ _ _ _ _ _ _ => rfl) fx_no)))) (fx_cnd (fx_cnd (fx_cnd (fun _ _ _ _ _ _ _ _ => rfl) fx_no) (fx_cnd (fx_cnd (fun _ _ _ _ _ _ _ _ => rfl) fx_no) (fx_cnd (fun _ _ _ _ _ _ _ _ => rfl) fx_no))) (fx_cnd (fx_cnd (fun _ _ _ _ _ _ _ _ => rfl) fx_no) (fx_cnd (fx_cnd (fun _ _ _ _ _ _ _ _ => rfl) fx_no) (fx_cnd (fun _ _ _ _ _ _ _ _ => rfl) fx_no))))
theorem fk_148_2 (X : ez_X) (pc : Nat) : fx_ok X (ft_148_2 X pc) (ez_t148_2 pc) := by
  delta ft_148_2 ez_t148_2
  exact fx_cnd (fk_148_0 X pc) (fk_148_1 X pc)
theorem fk_148_3 (X : ez_X) (pc : Nat) : fx_ok X (ft_148_3 X pc) (ez_t148_3 pc) := by
  delta ft_148_3 ez_t148_3
  exact fx_cnd (fx_cnd (fx_cnd (fx_cnd (fun _ _ _ _ _ _ _ _ => rfl) fx_no) (fx_cnd (fun _ _ _ _ _ _ _ _ => rfl) fx_no)) (fx_cnd (fx_cnd (fun _ _ _ _ _ _ _ _ => rfl) fx_no) (fx_cnd (fx_cnd (fun _ _ _ _ _ _ _ _ => rfl) fx_no) (fx_cnd (fun _ _ _ _ _ _ _ _ => rfl) fx_no)))) (fx_cnd (fx_cnd (fx_cnd (fun _ _ _ _ _ _ _ _ => rfl) fx_no) (fx_cnd (fx_cnd (fun _ _ _ _ _ _ _ _ => rfl) fx_no) (fx_cnd (fun _ _ _ _ _ _ _ _ => rfl) fx_no))) (fx_cnd (fx_cnd (fun _ _ _ _ _ _ _ _ => rfl) fx_no) (fx_cnd (fx_cnd (fun _ _ _ _ _ _ _ _ => rfl) fx_no) (fx_cnd (fun _ _ _ _ _ _ _ _ => rfl) fx_no))))
theorem fk_148_4 (X : ez_X) (pc : Nat) : fx_ok X (ft_148_4 X pc) (ez_t148_4 pc) := by
  delta ft_148_4 ez_t148_4
  exact fx_cnd (fx_cnd (fx_cnd (fx_cnd (fun _ _ _ _ _ _ _ _ => rfl) fx_no) (fx_cnd (fx_cnd (fun _ _ _ _ _ _ _ _ => rfl) fx_no) (fx_cnd (fun _ _ _ _ _ _ _ _ => rfl) fx_no))) (fx_cnd (fx_cnd (fun _ _ _ _ _ _ _ _ => rfl) fx_no) (fx_cnd (fx_cnd (fun _ _ _ _ _ _ _ _ => rfl) fx_no) (fx_cnd (fun _ _ _ _ _ _ _ _ => rfl) fx_no)))) (fx_cnd (fx_cnd (fx_cnd (fun _ _ _ _ _ _ _ _ => rfl) fx_no) (fx_cnd (fx_cnd (fun _ _ _ _ _ _ _ _ => rfl) fx_no) (fx_cnd (fun _ _ _ _ _ _ _ _ => rfl) fx_no))) (fx_cnd (fx_cnd (fun _ _ _ _ _ _ _ _ => rfl) fx_no) (fx_cnd (fx_cnd (fun _ _ _ _ _ _ _ _ => rfl) fx_no) (fx_cnd (fun _ _ _ _ _ _ _ _ => rfl) fx_no))))
theorem fk_148_5 (X : ez_X) (pc : Nat) : fx_ok X (ft_148_5 X pc) (ez_t148_5 pc) := by
  delta ft_148_5 ez_t148_5
  exact fx_cnd (fk_148_3 X pc) (fk_148_4 X pc)
theorem fk_148 (X : ez_X) (pc : Nat) : fx_ok X (ft_148 X pc) (ez_t148 pc) := by
  delta ft_148 ez_t148
  exact fx_cnd (fk_148_2 X pc) (fk_148_5 X pc)
theorem fk_149_0 (X : ez_X) (pc : Nat) : fx_ok X (ft_149_0 X pc) (ez_t149_0 pc) := by
  delta ft_149_0 ez_t149_0
  exact fx_cnd (fx_cnd (fx_cnd (fx_cnd (fun _ _ _ _ _ _ _ _ => rfl) fx_no) (fx_cnd (fun _ _ _ _ _ _ _ _ => rfl) fx_no)) (fx_cnd (fx_cnd (fun _ _ _ _ _ _ _ _ => rfl) fx_no) (fx_cnd (fun _ _ _ _ _ _ _ _ => rfl) fx_no))) (fx_cnd (fx_cnd (fx_cnd (fun _ _ _ _ _ _ _ _ => rfl) fx_no) (fx_cnd (fun _ _ _ _ _ _ _ _ => rfl) fx_no)) (fx_cnd (fx_cnd (fun _ _ _ _ _ _ _ _ => rfl) fx_no) (fx_cnd (fx_cnd (fun _ _ _ _ _ _ _ _ => rfl) fx_no) (fx_cnd (fun _ _ _ _ _ _ _ _ => rfl) fx_no))))
theorem fk_149_1 (X : ez_X) (pc : Nat) : fx_ok X (ft_149_1 X pc) (ez_t149_1 pc) := by
  delta ft_149_1 ez_t149_1
  exact fx_cnd (fx_cnd (fx_cnd (fx_cnd (fun _ _ _ _ _ _ _ _ => rfl) fx_no) (fx_cnd (fun _ _ _ _ _ _ _ _ => rfl) fx_no)) (fx_cnd (fx_cnd (fun _ _ _ _ _ _ _ _ => rfl) fx_no) (fx_cnd (fun _ _ _ _ _ _ _ _ => rfl) fx_no))) (fx_cnd (fx_cnd (fx_cnd (fun _ _ _ _ _ _ _ _ => rfl) fx_no) (fx_cnd (fun _ _ _ _ _ _ _ _ => rfl) fx_no)) (fx_cnd (fx_cnd (fun _ _ _ _ _ _ _ _ => rfl) fx_no) (fx_cnd (fx_cnd (fun _ _ _ _ _ _ _ _ => rfl) fx_no) (fx_cnd (fun _ _ _ _ _ _ _ _ => rfl) fx_no))))
theorem fk_149_2 (X : ez_X) (pc : Nat) : fx_ok X (ft_149_2 X pc) (ez_t149_2 pc) := by
  delta ft_149_2 ez_t149_2
  exact fx_cnd (fk_149_0 X pc) (fk_149_1 X pc)
theorem fk_149_3 (X : ez_X) (pc : Nat) : fx_ok X (ft_149_3 X pc) (ez_t149_3 pc) := by
  delta ft_149_3 ez_t149_3
  exact fx_cnd (fx_cnd (fx_cnd (fx_cnd (fun _ _ _ _ _ _ _ _ => rfl) fx_no) (fx_cnd (fun _ _ _ _ _ _ _ _ => rfl) fx_no)) (fx_cnd (fx_cnd (fun _ _ _ _ _ _ _ _ => rfl) fx_no) (fx_cnd (fun _ _ _ _ _ _ _ _ => rfl) fx_no))) (fx_cnd (fx_cnd (fx_cnd (fun _ _ _ _ _ _ _ _ => rfl) fx_no) (fx_cnd (fun _ _ _ _ _ _ _ _ => rfl) fx_no)) (fx_cnd (fx_cnd (fun _ _ _ _ _ _ _ _ => rfl) fx_no) (fx_cnd (fx_cnd (fun _ _ _ _ _ _ _ _ => rfl) fx_no) (fx_cnd (fun _ _ _ _ _ _ _ _ => rfl) fx_no))))
theorem fk_149_4 (X : ez_X) (pc : Nat) : fx_ok X (ft_149_4 X pc) (ez_t149_4 pc) := by
  delta ft_149_4 ez_t149_4
  exact fx_cnd (fx_cnd (fx_cnd (fx_cnd (fun _ _ _ _ _ _ _ _ => rfl) fx_no) (fx_cnd (fun _ _ _ _ _ _ _ _ => rfl) fx_no)) (fx_cnd (fx_cnd (fun _ _ _ _ _ _ _ _ => rfl) fx_no) (fx_cnd (fx_cnd (fun _ _ _ _ _ _ _ _ => rfl) fx_no) (fx_cnd (fun _ _ _ _ _ _ _ _ => rfl) fx_no)))) (fx_cnd (fx_cnd (fx_cnd (fun _ _ _ _ _ _ _ _ => rfl) fx_no) (fx_cnd (fun _ _ _ _ _ _ _ _ => rfl) fx_no)) (fx_cnd (fx_cnd (fun _ _ _ _ _ _ _ _ => rfl) fx_no) (fx_cnd (fx_cnd (fun _ _ _ _ _ _ _ _ => rfl) fx_no) (fx_cnd (fun _ _ _ _ _ _ _ _ => rfl) fx_no))))
theorem fk_149_5 (X : ez_X) (pc : Nat) : fx_ok X (ft_149_5 X pc) (ez_t149_5 pc) := by
  delta ft_149_5 ez_t149_5
  exact fx_cnd (fk_149_3 X pc) (fk_149_4 X pc)
theorem fk_149_6 (X : ez_X) (pc : Nat) : fx_ok X (ft_149_6 X pc) (ez_t149_6 pc) := by
  delta ft_149_6 ez_t149_6
  exact fx_cnd (fk_149_2 X pc) (fk_149_5 X pc)
theorem fk_149_7 (X : ez_X) (pc : Nat) : fx_ok X (ft_149_7 X pc) (ez_t149_7 pc) := by
  delta ft_149_7 ez_t149_7
  exact fx_cnd (fx_cnd (fx_cnd (fx_cnd (fun _ _ _ _ _ _ _ _ => rfl) fx_no) (fx_cnd (fun _ _ _ _ _ _ _ _ => rfl) fx_no)) (fx_cnd (fx_cnd (fun _ _ _ _ _ _ _ _ => rfl) fx_no) (fx_cnd (fun _ _ _ _ _ _ _ _ => rfl) fx_no))) (fx_cnd (fx_cnd (fx_cnd (fun _ _ _ _ _ _ _ _ => rfl) fx_no) (fx_cnd (fun _ _ _ _ _ _ _ _ => rfl) fx_no)) (fx_cnd (fx_cnd (fun _ _ _ _ _ _ _ _ => rfl) fx_no) (fx_cnd (fx_cnd (fun _ _ _ _ _ _ _ _ => rfl) fx_no) (fx_cnd (fun _ _ _ _ _ _ _ _ => rfl) fx_no))))
theorem fk_149_8 (X : ez_X) (pc : Nat) : fx_ok X (ft_149_8 X pc) (ez_t149_8 pc) := by
  delta ft_149_8 ez_t149_8
  exact fx_cnd (fx_cnd (fx_cnd (fx_cnd (fun _ _ _ _ _ _ _ _ => rfl) fx_no) (fx_cnd (fun _ _ _ _ _ _ _ _ => rfl) fx_no)) (fx_cnd (fx_cnd (fun _ _ _ _ _ _ _ _ => rfl) fx_no) (fx_cnd (fun _ _ _ _ _ _ _ _ => rfl) fx_no))) (fx_cnd (fx_cnd (fx_cnd (fun _ _ _ _ _ _ _ _ => rfl) fx_no) (fx_cnd (fun _ _ _ _ _ _ _ _ => rfl) fx_no)) (fx_cnd (fx_cnd (fun _ _ _ _ _ _ _ _ => rfl) fx_no) (fx_cnd (fx_cnd (fun _ _ _ _ _ _ _ _ => rfl) fx_no) (fx_cnd (fun _ _ _ _ _ _ _ _ => rfl) fx_no))))
theorem fk_149_9 (X : ez_X) (pc : Nat) : fx_ok X (ft_149_9 X pc) (ez_t149_9 pc) := by
  delta ft_149_9 ez_t149_9
  exact fx_cnd (fk_149_7 X pc) (fk_149_8 X pc)
theorem fk_149_10 (X : ez_X) (pc : Nat) : fx_ok X (ft_149_10 X pc) (ez_t149_10 pc) := by
  delta ft_149_10 ez_t149_10
  exact fx_cnd (fx_cnd (fx_cnd (fx_cnd (fun _ _ _ _ _ _ _ _ => rfl) fx_no) (fx_cnd (fun _ _ _ _ _ _ _ _ => rfl) fx_no)) (fx_cnd (fx_cnd (fun _ _ _ _ _ _ _ _ => rfl) fx_no) (fx_cnd (fun _ _ _ _ _ _ _ _ => rfl) fx_no))) (fx_cnd (fx_cnd (fx_cnd (fun _ _ _ _ _ _ _ _ => rfl) fx_no) (fx_cnd (fun _ _ _ _ _ _ _ _ => rfl) fx_no)) (fx_cnd (fx_cnd (fun _ _ _ _ _ _ _ _ => rfl) fx_no) (fx_cnd (fx_cnd (fun _ _ _ _ _ _ _ _ => rfl) fx_no) (fx_cnd (fun _ _ _ _ _ _ _ _ => rfl) fx_no))))
theorem fk_149_11 (X : ez_X) (pc : Nat) : fx_ok X (ft_149_11 X pc) (ez_t149_11 pc) := by
  delta ft_149_11 ez_t149_11
  exact fx_cnd (fx_cnd (fx_cnd (fx_cnd (fun _ _ _ _ _ _ _ _ => rfl) fx_no) (fx_cnd (fun _ _ _ _ _ _ _ _ => rfl) fx_no)) (fx_cnd (fx_cnd (fun _ _ _ _ _ _ _ _ => rfl) fx_no) (fx_cnd (fx_cnd (fun _ _ _ _ _ _ _ _ => rfl) fx_no) (fx_cnd (fun _ _ _ _ _ _ _ _ => rfl) fx_no)))) (fx_cnd (fx_cnd (fx_cnd (fun _ _ _ _ _ _ _ _ => rfl) fx_no) (fx_cnd (fun _ _ _ _ _ _ _ _ => rfl) fx_no)) (fx_cnd (fx_cnd (fun _ _ _ _ _ _ _ _ => rfl) fx_no) (fx_cnd (fx_cnd (fun _ _ _ _ _ _ _ _ => rfl) fx_no) (fx_cnd (fun _ _ _ _ _ _ _ _ => rfl) fx_no))))
theorem fk_149_12 (X : ez_X) (pc : Nat) : fx_ok X (ft_149_12 X pc) (ez_t149_12 pc) := by
  delta ft_149_12 ez_t149_12
  exact fx_cnd (fk_149_10 X pc) (fk_149_11 X pc)
theorem fk_149_13 (X : ez_X) (pc : Nat) : fx_ok X (ft_149_13 X pc) (ez_t149_13 pc) := by
  delta ft_149_13 ez_t149_13
  exact fx_cnd (fk_149_9 X pc) (fk_149_12 X pc)
theorem fk_149 (X : ez_X) (pc : Nat) : fx_ok X (ft_149 X pc) (ez_t149 pc) := by
  delta ft_149 ez_t149
  exact fx_cnd (fk_149_6 X pc) (fk_149_13 X pc)
theorem fk_150_0 (X : ez_X) (pc : Nat) : fx_ok X (ft_150_0 X pc) (ez_t150_0 pc) := by
  delta ft_150_0 ez_t150_0
  exact fx_cnd (fx_cnd (fx_cnd (fx_cnd (fun _ _ _ _ _ _ _ _ => rfl) fx_no) (fx_cnd (fx_cnd (fun _ _ _ _ _ _ _ _ => rfl) fx_no) (fx_cnd (fun _ _ _ _ _ _ _ _ => rfl) fx_no))) (fx_cnd (fx_cnd (fun _ _ _ _ _ _ _ _ => rfl) fx_no) (fx_cnd (fx_cnd (fun _ _ _ _ _ _ _ _ => rfl) fx_no) (fx_cnd (fun _ _ _ _ _ _ _ _ => rfl) fx_no)))) (fx_cnd (fx_cnd (fx_cnd (fun _ _ _ _ _ _ _ _ => rfl) fx_no) (fx_cnd (fx_cnd (fun _ _ _ _ _ _ _ _ => rfl) fx_no) (fx_cnd (fun _ _ _ _ _ _ _ _ => rfl) fx_no))) (fx_cnd (fx_cnd (fun _ _ _ _ _ _ _ _ => rfl) fx_no) (fx_cnd (fx_cnd (fun _ _ _ _ _ _ _ _ => rfl) fx_no) (fx_cnd (fun _ _ _ _ _ _ _ _ => rfl) fx_no))))
theorem fk_150_1 (X : ez_X) (pc : Nat) : fx_ok X (ft_150_1 X pc) (ez_t150_1 pc) := by
  delta ft_150_1 ez_t150_1
  exact fx_cnd (fx_cnd (fx_cnd (fx_cnd (fun _ _ _ _ _ _ _ _ => rfl) fx_no) (fx_cnd (fx_cnd (fun _ _ _ _ _ _ _ _ => rfl) fx_no) (fx_cnd (fun _ _ _ _ _ _ _ _ => rfl) fx_no))) (fx_cnd (fx_cnd (fun _ _ _ _ _ _ _ _ => rfl) fx_no) (fx_cnd (fx_cnd (fun _ _ _ _ _ _ _ _ => rfl) fx_no) (fx_cnd (fun _ _ _ _ _ _ _ _ => rfl) fx_no)))) (fx_cnd (fx_cnd (fx_cnd (fun _ _ _ _ _ _ _ _ => rfl) fx_no) (fx_cnd (fx_cnd (fun _ _ _ _ _ _ _ _ => rfl) fx_no) (fx_cnd (fun _ _ _ _ _ _ _ _ => rfl) fx_no))) (fx_cnd (fx_cnd (fun _ _ _ _ _ _ _ _ => rfl) fx_no) (fx_cnd (fx_cnd (fun _ _ _ _ _ _ _ _ => rfl) fx_no) (fx_cnd (fun _ _ _ _ _ _ _ _ => rfl) fx_no))))
theorem fk_150 (X : ez_X) (pc : Nat) : fx_ok X (ft_150 X pc) (ez_t150 pc) := by
  delta ft_150 ez_t150
  exact fx_cnd (fk_150_0 X pc) (fk_150_1 X pc)
theorem fk_151 (X : ez_X) (pc : Nat) : fx_ok X (ft_151 X pc) (ez_t151 pc) := by
  delta ft_151 ez_t151
  exact fx_cnd (fx_cnd (fx_cnd (fun _ _ _ _ _ _ _ _ => rfl) fx_no) (fx_cnd (fx_cnd (fun _ _ _ _ _ _ _ _ => rfl) fx_no) (fx_cnd (fun _ _ _ _ _ _ _ _ => rfl) fx_no))) (fx_cnd (fx_cnd (fun _ _ _ _ _ _ _ _ => rfl) fx_no) (fx_cnd (fx_cnd (fun _ _ _ _ _ _ _ _ => rfl) fx_no) (fx_cnd (fun _ _ _ _ _ _ _ _ => rfl) fx_no)))
theorem fk_152 (X : ez_X) (pc : Nat) : fx_ok X (ft_152 X pc) (ez_t152 pc) := by
  delta ft_152 ez_t152
  exact fx_cnd (fx_cnd (fx_cnd (fun _ _ _ _ _ _ _ _ => rfl) fx_no) (fx_cnd (fun _ _ _ _ _ _ _ _ => rfl) fx_no)) (fx_cnd (fx_cnd (fun _ _ _ _ _ _ _ _ => rfl) fx_no) (fx_cnd (fx_cnd (fun _ _ _ _ _ _ _ _ => rfl) fx_no) (fx_cnd (fun _ _ _ _ _ _ _ _ => rfl) fx_no)))
theorem fk_153 (X : ez_X) (pc : Nat) : fx_ok X (ft_153 X pc) (ez_t153 pc) := by
  delta ft_153 ez_t153
  exact fx_cnd (fx_cnd (fx_cnd (fun _ _ _ _ _ _ _ _ => rfl) fx_no) (fx_cnd (fx_cnd (fun _ _ _ _ _ _ _ _ => rfl) fx_no) (fx_cnd (fun _ _ _ _ _ _ _ _ => rfl) fx_no))) (fx_cnd (fx_cnd (fx_cnd (fun _ _ _ _ _ _ _ _ => rfl) fx_no) (fx_cnd (fun _ _ _ _ _ _ _ _ => rfl) fx_no)) (fx_cnd (fx_cnd (fun _ _ _ _ _ _ _ _ => rfl) fx_no) (fx_cnd (fun _ _ _ _ _ _ _ _ => rfl) fx_no)))
theorem fk_154 (X : ez_X) (pc : Nat) : fx_ok X (ft_154 X pc) (ez_t154 pc) := by
  delta ft_154 ez_t154
  exact fx_cnd (fx_cnd (fx_cnd (fx_cnd (fun _ _ _ _ _ _ _ _ => rfl) fx_no) (fx_cnd (fun _ _ _ _ _ _ _ _ => rfl) fx_no)) (fx_cnd (fx_cnd (fun _ _ _ _ _ _ _ _ => rfl) fx_no) (fx_cnd (fx_cnd (fun _ _ _ _ _ _ _ _ => rfl) fx_no) (fx_cnd (fun _ _ _ _ _ _ _ _ => rfl) fx_no)))) (fx_cnd (fx_cnd (fx_cnd (fun _ _ _ _ _ _ _ _ => rfl) fx_no) (fx_cnd (fx_cnd (fun _ _ _ _ _ _ _ _ => rfl) fx_no) (fx_cnd (fun _ _ _ _ _ _ _ _ => rfl) fx_no))) (fx_cnd (fx_cnd (fun _ _ _ _ _ _ _ _ => rfl) fx_no) (fx_cnd (fx_cnd (fun _ _ _ _ _ _ _ _ => rfl) fx_no) (fx_cnd (fun _ _ _ _ _ _ _ _ => rfl) fx_no))))
theorem fk_155 (X : ez_X) (pc : Nat) : fx_ok X (ft_155 X pc) (ez_t155 pc) := by
  delta ft_155 ez_t155
  exact fx_cnd (fx_cnd (fx_cnd (fx_cnd (fun _ _ _ _ _ _ _ _ => rfl) fx_no) (fx_cnd (fun _ _ _ _ _ _ _ _ => rfl) fx_no)) (fx_cnd (fx_cnd (fun _ _ _ _ _ _ _ _ => rfl) fx_no) (fx_cnd (fx_cnd (fun _ _ _ _ _ _ _ _ => rfl) fx_no) (fx_cnd (fun _ _ _ _ _ _ _ _ => rfl) fx_no)))) (fx_cnd (fx_cnd (fx_cnd (fun _ _ _ _ _ _ _ _ => rfl) fx_no) (fx_cnd (fx_cnd (fun _ _ _ _ _ _ _ _ => rfl) fx_no) (fx_cnd (fun _ _ _ _ _ _ _ _ => rfl) fx_no))) (fx_cnd (fx_cnd (fun _ _ _ _ _ _ _ _ => rfl) fx_no) (fx_cnd (fx_cnd (fun _ _ _ _ _ _ _ _ => rfl) fx_no) (fx_cnd (fun _ _ _ _ _ _ _ _ => rfl) fx_no))))
theorem fk_156_0 (X : ez_X) (pc : Nat) : fx_ok X (ft_156_0 X pc) (ez_t156_0 pc) := by
  delta ft_156_0 ez_t156_0
  exact fx_cnd (fx_cnd (fx_cnd (fun _ _ _ _ _ _ _ _ => rfl) fx_no) (fx_cnd (fx_cnd (fun _ _ _ _ _ _ _ _ => rfl) fx_no) (fx_cnd (fun _ _ _ _ _ _ _ _ => rfl) fx_no))) (fx_cnd (fx_cnd (fx_cnd (fun _ _ _ _ _ _ _ _ => rfl) fx_no) (fx_cnd (fun _ _ _ _ _ _ _ _ => rfl) fx_no)) (fx_cnd (fx_cnd (fun _ _ _ _ _ _ _ _ => rfl) fx_no) (fx_cnd (fun _ _ _ _ _ _ _ _ => rfl) fx_no)))
theorem fk_156_1 (X : ez_X) (pc : Nat) : fx_ok X (ft_156_1 X pc) (ez_t156_1 pc) := by
  delta ft_156_1 ez_t156_1
  exact fx_cnd (fx_cnd (fx_cnd (fx_cnd (fun _ _ _ _ _ _ _ _ => rfl) fx_no) (fx_cnd (fun _ _ _ _ _ _ _ _ => rfl) fx_no)) (fx_cnd (fx_cnd (fun _ _ _ _ _ _ _ _ => rfl) fx_no) (fx_cnd (fun _ _ _ _ _ _ _ _ => rfl) fx_no))) (fx_cnd (fx_cnd (fx_cnd (fun _ _ _ _ _ _ _ _ => rfl) fx_no) (fx_cnd (fun _ _ _ _ _ _ _ _ => rfl) fx_no)) (fx_cnd (fx_cnd (fun _ _ _ _ _ _ _ _ => rfl) fx_no) (fx_cnd (fun _ _ _ _ _ _ _ _ => rfl) fx_no)))
theorem fk_156 (X : ez_X) (pc : Nat) : fx_ok X (ft_156 X pc) (ez_t156 pc) := by
  delta ft_156 ez_t156
  exact fx_cnd (fk_156_0 X pc) (fk_156_1 X pc)
theorem fk_157_0 (X : ez_X) (pc : Nat) : fx_ok X (ft_157_0 X pc) (ez_t157_0 pc) := by
  delta ft_157_0 ez_t157_0
  exact fx_cnd (fx_cnd (fx_cnd (fx_cnd (fun _ _ _ _ _ _ _ _ => rfl) fx_no) (fx_cnd (fun _ _ _ _ _ _ _ _ => rfl) fx_no)) (fx_cnd (fx_cnd (fun _ _ _ _ _ _ _ _ => rfl) fx_no) (fx_cnd (fx_cnd (fun _ _ _ _ _ _ _ _ => rfl) fx_no) (fx_cnd (fun _ _ _ _ _ _ _ _ => rfl) fx_no)))) (fx_cnd (fx_cnd (fx_cnd (fun _ _ _ _ _ _ _ _ => rfl) fx_no) (fx_cnd (fun _ _ _ _ _ _ _ _ => rfl) fx_no)) (fx_cnd (fx_cnd (fun _ _ _ _ _ _ _ _ => rfl) fx_no) (fx_cnd (fx_cnd (fun _ _ _ _ _ _ _ _ => rfl) fx_no) (fx_cnd (fun _ _ _ _ _ _ _ _ => rfl) fx_no))))
theorem fk_157_1 (X : ez_X) (pc : Nat) : fx_ok X (ft_157_1 X pc) (ez_t157_1 pc) := by
  delta ft_157_1 ez_t157_1
  exact fx_cnd (fx_cnd (fx_cnd (fx_cnd (fun _ _ _ _ _ _ _ _ => rfl) fx_no) (fx_cnd (fun _ _ _ _ _ _ _ _ => rfl) fx_no)) (fx_cnd (fx_cnd (fun _ _ _ _ _ _ _ _ => rfl) fx_no) (fx_cnd (fx_cnd (fun _ _ _ _ _ _ _ _ => rfl) fx_no) (fx_cnd (fun _ _ _ _ _ _ _ _ => rfl) fx_no)))) (fx_cnd (fx_cnd (fx_cnd (fun _ _ _ _ _ _ _ _ => rfl) fx_no) (fx_cnd (fun _ _ _ _ _ _ _ _ => rfl) fx_no)) (fx_cnd (fx_cnd (fun _ _ _ _ _ _ _ _ => rfl) fx_no) (fx_cnd (fx_cnd (fun _ _ _ _ _ _ _ _ => rfl) fx_no) (fx_cnd (fun _ _ _ _ _ _ _ _ => rfl) fx_no))))
theorem fk_157 (X : ez_X) (pc : Nat) : fx_ok X (ft_157 X pc) (ez_t157 pc) := by
  delta ft_157 ez_t157
  exact fx_cnd (fk_157_0 X pc) (fk_157_1 X pc)
theorem fk_158_0 (X : ez_X) (pc : Nat) : fx_ok X (ft_158_0 X pc) (ez_t158_0 pc) := by
  delta ft_158_0 ez_t158_0
  exact fx_cnd (fx_cnd (fx_cnd (fx_cnd (fun _ _ _ _ _ _ _ _ => rfl) fx_no) (fx_cnd (fun _ _ _ _ _ _ _ _ => rfl) fx_no)) (fx_cnd (fx_cnd (fun _ _ _ _ _ _ _ _ => rfl) fx_no) (fx_cnd (fx_cnd (fun _ _ _ _ _ _ _ _ => rfl) fx_no) (fx_cnd (fun _ _ _ _ _ _ _ _ => rfl) fx_no)))) (fx_cnd (fx_cnd (fx_cnd (fun _ _ _ _ _ _ _ _ => rfl) fx_no) (fx_cnd (fx_cnd (fun _ _ _ _ _ _ _ _ => rfl) fx_no) (fx_cnd (fun _ _ _ _ _ _ _ _ => rfl) fx_no))) (fx_cnd (fx_cnd (fun _ _ _ _ _ _ _ _ => rfl) fx_no) (fx_cnd (fx_cnd (fun _ _ _ _ _ _ _ _ => rfl) fx_no) (fx_cnd (fun _ _ _ _ _ _ _ _ => rfl) fx_no))))
theorem fk_158_1 (X : ez_X) (pc : Nat) : fx_ok X (ft_158_1 X pc) (ez_t158_1 pc) := by
  delta ft_158_1 ez_t158_1
  exact fx_cnd (fx_cnd (fx_cnd (fx_cnd (fun _ _ _ _ _ _ _ _ => rfl) fx_no) (fx_cnd (fx_cnd (fun _ _ _ _ _ _ _ _ => rfl) fx_no) (fx_cnd (fun _ _ _ _ _ _ _ _ => rfl) fx_no))) (fx_cnd (fx_cnd (fun _ _ _ _ _ _ _ _ => rfl) fx_no) (fx_cnd (fx_cnd (fun _ _ _ _ _ _ _ _ => rfl) fx_no) (fx_cnd (fun _ _ _ _ _ _ _ _ => rfl) fx_no)))) (fx_cnd (fx_cnd (fx_cnd (fun _ _ _ _ _ _ _ _ => rfl) fx_no) (fx_cnd (fx_cnd (fun _ _ _ _ _ _ _ _ => rfl) fx_no) (fx_cnd (fun _ _ _ _ _ _ _ _ => rfl) fx_no))) (fx_cnd (fx_cnd (fun _ _ _ _ _ _ _ _ => rfl) fx_no) (fx_cnd (fx_cnd (fun _ _ _ _ _ _ _ _ => rfl) fx_no) (fx_cnd (fun _ _ _ _ _ _ _ _ => rfl) fx_no))))
theorem fk_158 (X : ez_X) (pc : Nat) : fx_ok X (ft_158 X pc) (ez_t158 pc) := by
  delta ft_158 ez_t158
  exact fx_cnd (fk_158_0 X pc) (fk_158_1 X pc)
theorem fk_159_0 (X : ez_X) (pc : Nat) : fx_ok X (ft_159_0 X pc) (ez_t159_0 pc) := by
  delta ft_159_0 ez_t159_0
  exact fx_cnd (fx_cnd (fx_cnd (fx_cnd (fun _ _ _ _ _ _ _ _ => rfl) fx_no) (fx_cnd (fun _ _ _ _ _ _ _ _ => rfl) fx_no)) (fx_cnd (fx_cnd (fun _ _ _ _ _ _ _ _ => rfl) fx_no) (fx_cnd (fx_cnd (fun _ _ _ _ _ _ _ _ => rfl) fx_no) (fx_cnd (fun _ _ _ _ _ _ _ _ => rfl) fx_no)))) (fx_cnd (fx_cnd (fx_cnd (fun _ _ _ _ _ _ _ _ => rfl) fx_no) (fx_cnd (fun _ _ _ _ _ _ _ _ => rfl) fx_no)) (fx_cnd (fx_cnd (fun _ _ _ _ _ _ _ _ => rfl) fx_no) (fx_cnd (fx_cnd (fun _ _ _ _ _ _ _ _ => rfl) fx_no) (fx_cnd (fun _ _ _ _ _ _ _ _ => rfl) fx_no))))
theorem fk_159_1 (X : ez_X) (pc : Nat) : fx_ok X (ft_159_1 X pc) (ez_t159_1 pc) := by
  delta ft_159_1 ez_t159_1
  exact fx_cnd (fx_cnd (fx_cnd (fx_cnd (fun _ _ _ _ _ _ _ _ => rfl) fx_no) (fx_cnd (fun _ _ _ _ _ _ _ _ => rfl) fx_no)) (fx_cnd (fx_cnd (fun _ _ _ _ _ _ _ _ => rfl) fx_no) (fx_cnd (fx_cnd (fun _ _ _ _ _ _ _ _ => rfl) fx_no) (fx_cnd (fun _ _ _ _ _ _ _ _ => rfl) fx_no)))) (fx_cnd (fx_cnd (fx_cnd (fun _ _ _ _ _ _ _ _ => rfl) fx_no) (fx_cnd (fx_cnd (fun _ _ _ _ _ _ _ _ => rfl) fx_no) (fx_cnd (fun _ _ _ _ _ _ _ _ => rfl) fx_no))) (fx_cnd (fx_cnd (fun _ _ _ _ _ _ _ _ => rfl) fx_no) (fx_cnd (fx_cnd (fun _ _ _ _ _ _ _ _ => rfl) fx_no) (fx_cnd (fun _ _ _ _ _ _ _ _ => rfl) fx_no))))
theorem fk_159 (X : ez_X) (pc : Nat) : fx_ok X (ft_159 X pc) (ez_t159 pc) := by
  delta ft_159 ez_t159
  exact fx_cnd (fk_159_0 X pc) (fk_159_1 X pc)
theorem fk_160_0 (X : ez_X) (pc : Nat) : fx_ok X (ft_160_0 X pc) (ez_t160_0 pc) := by
  delta ft_160_0 ez_t160_0
  exact fx_cnd (fx_cnd (fx_cnd (fun _ _ _ _ _ _ _ _ => rfl) fx_no) (fx_cnd (fx_cnd (fun _ _ _ _ _ _ _ _ => rfl) fx_no) (fx_cnd (fun _ _ _ _ _ _ _ _ => rfl) fx_no))) (fx_cnd (fx_cnd (fx_cnd (fun _ _ _ _ _ _ _ _ => rfl) fx_no) (fx_cnd (fun _ _ _ _ _ _ _ _ => rfl) fx_no)) (fx_cnd (fx_cnd (fun _ _ _ _ _ _ _ _ => rfl) fx_no) (fx_cnd (fun _ _ _ _ _ _ _ _ => rfl) fx_no)))
theorem fk_160_1 (X : ez_X) (pc : Nat) : fx_ok X (ft_160_1 X pc) (ez_t160_1 pc) := by
  delta ft_160_1 ez_t160_1
  exact fx_cnd (fx_cnd (fx_cnd (fx_cnd (fun _ _ _ _ _ _ _ _ => rfl) fx_no) (fx_cnd (fun _ _ _ _ _ _ _ _ => rfl) fx_no)) (fx_cnd (fx_cnd (fun _ _ _ _ _ _ _ _ => rfl) fx_no) (fx_cnd (fun _ _ _ _ _ _ _ _ => rfl) fx_no))) (fx_cnd (fx_cnd (fx_cnd (fun _ _ _ _ _ _ _ _ => rfl) fx_no) (fx_cnd (fun _ _ _ _ _ _ _ _ => rfl) fx_no)) (fx_cnd (fx_cnd (fun _ _ _ _ _ _ _ _ => rfl) fx_no) (fx_cnd (fun _ _ _ _ _ _ _ _ => rfl) fx_no)))
theorem fk_160_2 (X : ez_X) (pc : Nat) : fx_ok X (ft_160_2 X pc) (ez_t160_2 pc) := by
  delta ft_160_2 ez_t160_2
  exact fx_cnd (fk_160_0 X pc) (fk_160_1 X pc)
theorem fk_160_3 (X : ez_X) (pc : Nat) : fx_ok X (ft_160_3 X pc) (ez_t160_3 pc) := by
  delta ft_160_3 ez_t160_3
  exact fx_cnd (fx_cnd (fx_cnd (fx_cnd (fun _ _ _ _ _ _ _ _ => rfl) fx_no) (fx_cnd (fun _ _ _ _ _ _ _ _ => rfl) fx_no)) (fx_cnd (fx_cnd (fun _ _ _ _ _ _ _ _ => rfl) fx_no) (fx_cnd (fun _ _ _ _ _ _ _ _ => rfl) fx_no))) (fx_cnd (fx_cnd (fx_cnd (fun _ _ _ _ _ _ _ _ => rfl) fx_no) (fx_cnd (fun _ _ _ _ _ _ _ _ => rfl) fx_no)) (fx_cnd (fx_cnd (fun _ _ _ _ _ _ _ _ => rfl) fx_no) (fx_cnd (fun _ _ _ _ _ _ _ _ => rfl) fx_no)))
theorem fk_160_4 (X : ez_X) (pc : Nat) : fx_ok X (ft_160_4 X pc) (ez_t160_4 pc) := by
  delta ft_160_4 ez_t160_4
  exact fx_cnd (fx_cnd (fx_cnd (fx_cnd (fun _ _ _ _ _ _ _ _ => rfl) fx_no) (fx_cnd (fun _ _ _ _ _ _ _ _ => rfl) fx_no)) (fx_cnd (fx_cnd (fun _ _ _ _ _ _ _ _ => rfl) fx_no) (fx_cnd (fun _ _ _ _ _ _ _ _ => rfl) fx_no))) (fx_cnd (fx_cnd (fx_cnd (fun _ _ _ _ _ _ _ _ => rfl) fx_no) (fx_cnd (fun _ _ _ _ _ _ _ _ => rfl) fx_no)) (fx_cnd (fx_cnd (fun _ _ _ _ _ _ _ _ => rfl) fx_no) (fx_cnd (fun _ _ _ _ _ _ _ _ => rfl) fx_no)))
theorem fk_160_5 (X : ez_X) (pc : Nat) : fx_ok X (ft_160_5 X pc) (ez_t160_5 pc) := by
  delta ft_160_5 ez_t160_5
  exact fx_cnd (fk_160_3 X pc) (fk_160_4 X pc)
theorem fk_160 (X : ez_X) (pc : Nat) : fx_ok X (ft_160 X pc) (ez_t160 pc) := by
  delta ft_160 ez_t160
  exact fx_cnd (fk_160_2 X pc) (fk_160_5 X pc)
theorem fk_161_0 (X : ez_X) (pc : Nat) : fx_ok X (ft_161_0 X pc) (ez_t161_0 pc) := by
  delta ft_161_0 ez_t161_0
  exact fx_cnd (fx_cnd (fx_cnd (fun _ _ _ _ _ _ _ _ => rfl) fx_no) (fx_cnd (fx_cnd (fun _ _ _ _ _ _ _ _ => rfl) fx_no) (fx_cnd (fun _ _ _ _ _ _ _ _ => rfl) fx_no))) (fx_cnd (fx_cnd (fx_cnd (fun _ _ _ _ _ _ _ _ => rfl) fx_no) (fx_cnd (fun _ _ _ _ _ _ _ _ => rfl) fx_no)) (fx_cnd (fx_cnd (fun _ _ _ _ _ _ _ _ => rfl) fx_no) (fx_cnd (fun _ _ _ _ _ _ _ _ => rfl) fx_no)))
theorem fk_161_1 (X : ez_X) (pc : Nat) : fx_ok X (ft_161_1 X pc) (ez_t161_1 pc) := by
  delta ft_161_1 ez_t161_1
  exact fx_cnd (fx_cnd (fx_cnd (fx_cnd (fun _ _ _ _ _ _ _ _ => rfl) fx_no) (fx_cnd (fun _ _ _ _ _ _ _ _ => rfl) fx_no)) (fx_cnd (fx_cnd (fun _ _ _ _ _ _ _ _ => rfl) fx_no) (fx_cnd (fun _ _ _ _ _ _ _ _ => rfl) fx_no))) (fx_cnd (fx_cnd (fx_cnd (fun _ _ _ _ _ _ _ _ => rfl) fx_no) (fx_cnd (fun _ _ _ _ _ _ _ _ => rfl) fx_no)) (fx_cnd (fx_cnd (fun _ _ _ _ _ _ _ _ => rfl) fx_no) (fx_cnd (fun _ _ _ _ _ _ _ _ => rfl) fx_no)))
theorem fk_161 (X : ez_X) (pc : Nat) : fx_ok X (ft_161 X pc) (ez_t161 pc) := by
  delta ft_161 ez_t161
  exact fx_cnd (fk_161_0 X pc) (fk_161_1 X pc)
theorem fk_162_0 (X : ez_X) (pc : Nat) : fx_ok X (ft_162_0 X pc) (ez_t162_0 pc) := by
  delta ft_162_0 ez_t162_0
  exact fx_cnd (fx_cnd (fx_cnd (fun _ _ _ _ _ _ _ _ => rfl) fx_no) (fx_cnd (fx_cnd (fun _ _ _ _ _ _ _ _ => rfl) fx_no) (fx_cnd (fun _ _ _ _ _ _ _ _ => rfl) fx_no))) (fx_cnd (fx_cnd (fx_cnd (fun _ _ _ _ _ _ _ _ => rfl) fx_no) (fx_cnd (fun _ _ _ _ _ _ _ _ => rfl) fx_no)) (fx_cnd (fx_cnd (fun _ _ _ _ _ _ _ _ => rfl) fx_no) (fx_cnd (fun _ _ _ _ _ _ _ _ => rfl) fx_no)))
theorem fk_162_1 (X : ez_X) (pc : Nat) : fx_ok X (ft_162_1 X pc) (ez_t162_1 pc) := by
  delta ft_162_1 ez_t162_1
  exact fx_cnd (fx_cnd (fx_cnd (fun _ _ _ _ _ _ _ _ => rfl) fx_no) (fx_cnd (fx_cnd (fun _ _ _ _ _ _ _ _ => rfl) fx_no) (fx_cnd (fun _ _ _ _ _ _ _ _ => rfl) fx_no))) (fx_cnd (fx_cnd (fx_cnd (fun _ _ _ _ _ _ _ _ => rfl) fx_no) (fx_cnd (fun _ _ _ _ _ _ _ _ => rfl) fx_no)) (fx_cnd (fx_cnd (fun _ _ _ _ _ _ _ _ => rfl) fx_no) (fx_cnd (fun _ _ _ _ _ _ _ _ => rfl) fx_no)))
theorem fk_162_2 (X : ez_X) (pc : Nat) : fx_ok X (ft_162_2 X pc) (ez_t162_2 pc) := by
  delta ft_162_2 ez_t162_2
  exact fx_cnd (fk_162_0 X pc) (fk_162_1 X pc)
theorem fk_162_3 (X : ez_X) (pc : Nat) : fx_ok X (ft_162_3 X pc) (ez_t162_3 pc) := by
  delta ft_162_3 ez_t162_3
  exact fx_cnd (fx_cnd (fx_cnd (fun _ _ _ _ _ _ _ _ => rfl) fx_no) (fx_cnd (fx_cnd (fun _ _ _ _ _ _ _ _ => rfl) fx_no) (fx_cnd (fun _ _ _ _ _ _ _ _ => rfl) fx_no))) (fx_cnd (fx_cnd (fx_cnd (fun _ _ _ _ _ _ _ _ => rfl) fx_no) (fx_cnd (fun _ _ _ _ _ _ _ _ => rfl) fx_no)) (fx_cnd (fx_cnd (fun _ _ _ _ _ _ _ _ => rfl) fx_no) (fx_cnd (fun _ _ _ _ _ _ _ _ => rfl) fx_no)))
theorem fk_162_4 (X : ez_X) (pc : Nat) : fx_ok X (ft_162_4 X pc) (ez_t162_4 pc) := by
  delta ft_162_4 ez_t162_4
  exact fx_cnd (fx_cnd (fx_cnd (fun _ _ _ _ _ _ _ _ => rfl) fx_no) (fx_cnd (fx_cnd (fun _ _ _ _ _ _ _ _ => rfl) fx_no) (fx_cnd (fun _ _ _ _ _ _ _ _ => rfl) fx_no))) (fx_cnd (fx_cnd (fx_cnd (fun _ _ _ _ _ _ _ _ => rfl) fx_no) (fx_cnd (fun _ _ _ _ _ _ _ _ => rfl) fx_no)) (fx_cnd (fx_cnd (fun _ _ _ _ _ _ _ _ => rfl) fx_no) (fx_cnd (fun _ _ _ _ _ _ _ _ => rfl) fx_no)))
theorem fk_162_5 (X : ez_X) (pc : Nat) : fx_ok X (ft_162_5 X pc) (ez_t162_5 pc) := by
  delta ft_162_5 ez_t162_5
  exact fx_cnd (fk_162_3 X pc) (fk_162_4 X pc)
theorem fk_162 (X : ez_X) (pc : Nat) : fx_ok X (ft_162 X pc) (ez_t162 pc) := by
  delta ft_162 ez_t162
  exact fx_cnd (fk_162_2 X pc) (fk_162_5 X pc)
theorem fk_163 (X : ez_X) (pc : Nat) : fx_ok X (ft_163 X pc) (ez_t163 pc) := by
  delta ft_163 ez_t163
  exact fx_cnd (fx_cnd (fx_cnd (fun _ _ _ _ _ _ _ _ => rfl) fx_no) (fx_cnd (fun _ _ _ _ _ _ _ _ => rfl) fx_no)) (fx_cnd (fx_cnd (fun _ _ _ _ _ _ _ _ => rfl) fx_no) (fx_cnd (fx_cnd (fun _ _ _ _ _ _ _ _ => rfl) fx_no) (fx_cnd (fun _ _ _ _ _ _ _ _ => rfl) fx_no)))
theorem fk_164_0 (X : ez_X) (pc : Nat) : fx_ok X (ft_164_0 X pc) (ez_t164_0 pc) := by
  delta ft_164_0 ez_t164_0
  exact fx_cnd (fx_cnd (fx_cnd (fx_cnd (fun _ _ _ _ _ _ _ _ => rfl) fx_no) (fx_cnd (fun _ _ _ _ _ _ _ _ => rfl) fx_no)) (fx_cnd (fx_cnd (fun _ _ _ _ _ _ _ _ => rfl) fx_no) (fx_cnd (fun _ _ _ _ _ _ _ _ => rfl) fx_no))) (fx_cnd (fx_cnd (fx_cnd (fun _ _ _ _ _ _ _ _ => rfl) fx_no) (fx_cnd (fun _ _ _ _ _ _ _ _ => rfl) fx_no)) (fx_cnd (fx_cnd (fun _ _ _ _ _ _ _ _ => rfl) fx_no) (fx_cnd (fun _ _ _ _ _ _ _ _ => rfl) fx_no)))
theorem fk_164_1 (X : ez_X) (pc : Nat) : fx_ok X (ft_164_1 X pc) (ez_t164_1 pc) := by
  delta ft_164_1 ez_t164_1
  exact fx_cnd (fx_cnd (fx_cnd (fx_cnd (fun _ _ _ _ _ _ _ _ => rfl) fx_no) (fx_cnd (fun _ _ _ _ _ _ _ _ => rfl) fx_no)) (fx_cnd (fx_cnd (fun _ _ _ _ _ _ _ _ => rfl) fx_no) (fx_cnd (fun _ _ _ _ _ _ _ _ => rfl) fx_no))) (fx_cnd (fx_cnd (fx_cnd (fun _ _ _ _ _ _ _ _ => rfl) fx_no) (fx_cnd (fun _ _ _ _ _ _ _ _ => rfl) fx_no)) (fx_cnd (fx_cnd (fun _ _ _ _ _ _ _ _ => rfl) fx_no) (fx_cnd (fx_cnd (fun _ _ _ _ _ _ _ _ => rfl) fx_no) (fx_cnd (fun _ _ _ _ _ _ _ _ => rfl) fx_no))))
theorem fk_164_2 (X : ez_X) (pc : Nat) : fx_ok X (ft_164_2 X pc) (ez_t164_2 pc) := by
  delta ft_164_2 ez_t164_2
  exact fx_cnd (fk_164_0 X pc) (fk_164_1 X pc)
theorem fk_164_3 (X : ez_X) (pc : Nat) : fx_ok X (ft_164_3 X pc) (ez_t164_3 pc) := by
  delta ft_164_3 ez_t164_3
  exact fx_cnd (fx_cnd (fx_cnd (fx_cnd (fun _ _ _ _ _ _ _ _ => rfl) fx_no) (fx_cnd (fun _ _ _ _ _ _ _ _ => rfl) fx_no)) (fx_cnd (fx_cnd (fun _ _ _ _ _ _ _ _ => rfl) fx_no) (fx_cnd (fun _ _ _ _ _ _ _ _ => rfl) fx_no))) (fx_cnd (fx_cnd (fx_cnd (fun _ _ _ _ _ _ _ _ => rfl) fx_no) (fx_cnd (fun _ _ _ _ _ _ _ _ => rfl) fx_no)) (fx_cnd (fx_cnd (fun _ _ _ _ _ _ _ _ => rfl) fx_no) (fx_cnd (fx_cnd (fun _ _ _ _ _ _ _ _ => rfl) fx_no) (fx_cnd (fun _ _ _ _ _ _ _ _ => rfl) fx_no))))
theorem fk_164_4 (X : ez_X) (pc : Nat) : fx_ok X (ft_164_4 X pc) (ez_t164_4 pc) := by
  delta ft_164_4 ez_t164_4
  exact fx_cnd (fx_cnd (fx_cnd (fx_cnd (fun _ _ _ _ _ _ _ _ => rfl) fx_no) (fx_cnd (fun _ _ _ _ _ _ _ _ => rfl) fx_no)) (fx_cnd (fx_cnd (fun _ _ _ _ _ _ _ _ => rfl) fx_no) (fx_cnd (fun _ _ _ _ _ _ _ _ => rfl) fx_no))) (fx_cnd (fx_cnd (fx_cnd (fun _ _ _ _ _ _ _ _ => rfl) fx_no) (fx_cnd (fun _ _ _ _ _ _ _ _ => rfl) fx_no)) (fx_cnd (fx_cnd (fun _ _ _ _ _ _ _ _ => rfl) fx_no) (fx_cnd (fx_cnd (fun _ _ _ _ _ _ _ _ => rfl) fx_no) (fx_cnd (fun _ _ _ _ _ _ _ _ => rfl) fx_no))))
theorem fk_164_5 (X : ez_X) (pc : Nat) : fx_ok X (ft_164_5 X pc) (ez_t164_5 pc) := by
  delta ft_164_5 ez_t164_5
  exact fx_cnd (fk_164_3 X pc) (fk_164_4 X pc)
theorem fk_164_6 (X : ez_X) (pc : Nat) : fx_ok X (ft_164_6 X pc) (ez_t164_6 pc) := by
  delta ft_164_6 ez_t164_6
  exact fx_cnd (fk_164_2 X pc) (fk_164_5 X pc)
theorem fk_164_7 (X : ez_X) (pc : Nat) : fx_ok X (ft_164_7 X pc) (ez_t164_7 pc) := by
  delta ft_164_7 ez_t164_7
  exact fx_cnd (fx_cnd (fx_cnd (fx_cnd (fun _ _ _ _ _ _ _ _ => rfl) fx_no) (fx_cnd (fun _ _ _ _ _ _ _ _ => rfl) fx_no)) (fx_cnd (fx_cnd (fun _ _ _ _ _ _ _ _ => rfl) fx_no) (fx_cnd (fun _ _ _ _ _ _ _ _ => rfl) fx_no))) (fx_cnd (fx_cnd (fx_cnd (fun _ _ _ _ _ _ _ _ => rfl) fx_no) (fx_cnd (fun _ _ _ _ _ _ _ _ => rfl) fx_no)) (fx_cnd (fx_cnd (fun _ _ _ _ _ _ _ _ => rfl) fx_no) (fx_cnd (fun _ _ _ _ _ _ _ _ => rfl) fx_no)))
theorem fk_164_8 (X : ez_X) (pc : Nat) : fx_ok X (ft_164_8 X pc) (ez_t164_8 pc) := by
  delta ft_164_8 ez_t164_8
  exact fx_cnd (fx_cnd (fx_cnd (fx_cnd (fun _ _ _ _ _ _ _ _ => rfl) fx_no) (fx_cnd (fun _ _ _ _ _ _ _ _ => rfl) fx_no)) (fx_cnd (fx_cnd (fun _ _ _ _ _ _ _ _ => rfl) fx_no) (fx_cnd (fun _ _ _ _ _ _ _ _ => rfl) fx_no))) (fx_cnd (fx_cnd (fx_cnd (fun _ _ _ _ _ _ _ _ => rfl) fx_no) (fx_cnd (fun _ _ _ _ _ _ _ _ => rfl) fx_no)) (fx_cnd (fx_cnd (fun _ _ _ _ _ _ _ _ => rfl) fx_no) (fx_cnd (fx_cnd (fun _ _ _ _ _ _ _ _ => rfl) fx_no) (fx_cnd (fun _ _ _ _ _ _ _ _ => rfl) fx_no))))
theorem fk_164_9 (X : ez_X) (pc : Nat) : fx_ok X (ft_164_9 X pc) (ez_t164_9 pc) := by
  delta ft_164_9 ez_t164_9
  exact fx_cnd (fk_164_7 X pc) (fk_164_8 X pc)
theorem fk_164_10 (X : ez_X) (pc : Nat) : fx_ok X (ft_164_10 X pc) (ez_t164_10 pc) := by
  delta ft_164_10 ez_t164_10
  exact fx_cnd (fx_cnd (fx_cnd (fx_cnd (fun _ _ _ _ _ _ _ _ => rfl) fx_no) (fx_cnd (fun _ _ _ _ _ _ _ _ => rfl) fx_no)) (fx_cnd (fx_cnd (fun _ _ _ _ _ _ _ _ => rfl) fx_no) (fx_cnd (fun _ _ _ _ _ _ _ _ => rfl) fx_no))) (fx_cnd (fx_cnd (fx_cnd (fun _ _ _ _ _ _ _ _ => rfl) fx_no) (fx_cnd (fun _ _ _ _ _ _ _ _ => rfl) fx_no)) (fx_cnd (fx_cnd (fun _ _ _ _ _ _ _ _ => rfl) fx_no) (fx_cnd (fx_cnd (fun _ _ _ _ _ _ _ _ => rfl) fx_no) (fx_cnd (fun _ _ _ _ _ _ _ _ => rfl) fx_no))))
theorem fk_164_11 (X : ez_X) (pc : Nat) : fx_ok X (ft_164_11 X pc) (ez_t164_11 pc) := by
  delta ft_164_11 ez_t164_11
  exact fx_cnd (fx_cnd (fx_cnd (fx_cnd (fun _ _ _ _ _ _ _ _ => rfl) fx_no) (fx_cnd (fun _ _ _ _ _ _ _ _ => rfl) fx_no)) (fx_cnd (fx_cnd (fun _ _ _ _ _ _ _ _ => rfl) fx_no) (fx_cnd (fun _ _ _ _ _ _ _ _ => rfl) fx_no))) (fx_cnd (fx_cnd (fx_cnd (fun _ _ _ _ _ _ _ _ => rfl) fx_no) (fx_cnd (fun _ _ _ _ _ _ _ _ => rfl) fx_no)) (fx_cnd (fx_cnd (fun _ _ _ _ _ _ _ _ => rfl) fx_no) (fx_cnd (fx_cnd (fun _ _ _ _ _ _ _ _ => rfl) fx_no) (fx_cnd (fun _ _ _ _ _ _ _ _ => rfl) fx_no))))
theorem fk_164_12 (X : ez_X) (pc : Nat) : fx_ok X (ft_164_12 X pc) (ez_t164_12 pc) := by
  delta ft_164_12 ez_t164_12
  exact fx_cnd (fk_164_10 X pc) (fk_164_11 X pc)
theorem fk_164_13 (X : ez_X) (pc : Nat) : fx_ok X (ft_164_13 X pc) (ez_t164_13 pc) := by
  delta ft_164_13 ez_t164_13
  exact fx_cnd (fk_164_9 X pc) (fk_164_12 X pc)
theorem fk_164_14 (X : ez_X) (pc : Nat) : fx_ok X (ft_164_14 X pc) (ez_t164_14 pc) := by
  delta ft_164_14 ez_t164_14
  exact fx_cnd (fk_164_6 X pc) (fk_164_13 X pc)
theorem fk_164_15 (X : ez_X) (pc : Nat) : fx_ok X (ft_164_15 X pc) (ez_t164_15 pc) := by
  delta ft_164_15 ez_t164_15
  exact fx_cnd (fx_cnd (fx_cnd (fx_cnd (fun _ _ _ _ _ _ _ _ => rfl) fx_no) (fx_cnd (fun _ _ _ _ _ _ _ _ => rfl) fx_no)) (fx_cnd (fx_cnd (fun _ _ _ _ _ _ _ _ => rfl) fx_no) (fx_cnd (fun _ _ _ _ _ _ _ _ => rfl) fx_no))) (fx_cnd (fx_cnd (fx_cnd (fun _ _ _ _ _ _ _ _ => rfl) fx_no) (fx_cnd (fun _ _ _ _ _ _ _ _ => rfl) fx_no)) (fx_cnd (fx_cnd (fun _ _ _ _ _ _ _ _ => rfl) fx_no) (fx_cnd (fun _ _ _ _ _ _ _ _ => rfl) fx_no)))
theorem fk_164_16 (X : ez_X) (pc : Nat) : fx_ok X (ft_164_16 X pc) (ez_t164_16 pc) := by
  delta ft_164_16 ez_t164_16
  exact fx_cnd (fx_cnd (fx_cnd (fx_cnd (fun _ _ _ _ _ _ _ _ => rfl) fx_no) (fx_cnd (fun _ _ _ _ _ _ _ _ => rfl) fx_no)) (fx_cnd (fx_cnd (fun _ _ _ _ _ _ _ _ => rfl) fx_no) (fx_cnd (fun _ _ _ _ _ _ _ _ => rfl) fx_no))) (fx_cnd (fx_cnd (fx_cnd (fun _ _ _ _ _ _ _ _ => rfl) fx_no) (fx_cnd (fun _ _ _ _ _ _ _ _ => rfl) fx_no)) (fx_cnd (fx_cnd (fun _ _ _ _ _ _ _ _ => rfl) fx_no) (fx_cnd (fx_cnd (fun _ _ _ _ _ _ _ _ => rfl) fx_no) (fx_cnd (fun _ _ _ _ _ _ _ _ => rfl) fx_no))))
theorem fk_164_17 (X : ez_X) (pc : Nat) : fx_ok X (ft_164_17 X pc) (ez_t164_17 pc) := by
  delta ft_164_17 ez_t164_17
  exact fx_cnd (fk_164_15 X pc) (fk_164_16 X pc)
theorem fk_164_18 (X : ez_X) (pc : Nat) : fx_ok X (ft_164_18 X pc) (ez_t164_18 pc) := by
  delta ft_164_18 ez_t164_18
  exact fx_cnd (fx_cnd (fx_cnd (fx_cnd (fun _ _ _ _ _ _ _ _ => rfl) fx_no) (fx_cnd (fun _ _ _ _ _ _ _ _ => rfl) fx_no)) (fx_cnd (fx_cnd (fun _ _ _ _ _ _ _ _ => rfl) fx_no) (fx_cnd (fun _ _ _ _ _ _ _ _ => rfl) fx_no))) (fx_cnd (fx_cnd (fx_cnd (fun _ _ _ _ _ _ _ _ => rfl) fx_no) (fx_cnd (fun _ _ _ _ _ _ _ _ => rfl) fx_no)) (fx_cnd (fx_cnd (fun _ _ _ _ _ _ _ _ => rfl) fx_no) (fx_cnd (fx_cnd (fun _ _ _ _ _ _ _ _ => rfl) fx_no) (fx_cnd (fun _ _ _ _ _ _ _ _ => rfl) fx_no))))
theorem fk_164_19 (X : ez_X) (pc : Nat) : fx_ok X (ft_164_19 X pc) (ez_t164_19 pc) := by
  delta ft_164_19 ez_t164_19
  exact fx_cnd (fx_cnd (fx_cnd (fx_cnd (fun _ _ _ _ _ _ _ _ => rfl) fx_no) (fx_cnd (fun _ _ _ _ _ _ _ _ => rfl) fx_no)) (fx_cnd (fx_cnd (fun _ _ _ _ _ _ _ _ => rfl) fx_no) (fx_cnd (fun _ _ _ _ _ _ _ _ => rfl) fx_no))) (fx_cnd (fx_cnd (fx_cnd (fun _ _ _ _ _ _ _ _ => rfl) fx_no) (fx_cnd (fun _ _ _ _ _ _ _ _ => rfl) fx_no)) (fx_cnd (fx_cnd (fun _ _ _ _ _ _ _ _ => rfl) fx_no) (fx_cnd (fx_cnd (fun _ _ _ _ _ _ _ _ => rfl) fx_no) (fx_cnd (fun _ _ _ _ _ _ _ _ => rfl) fx_no))))
theorem fk_164_20 (X : ez_X) (pc : Nat) : fx_ok X (ft_164_20 X pc) (ez_t164_20 pc) := by
  delta ft_164_20 ez_t164_20
  exact fx_cnd (fk_164_18 X pc) (fk_164_19 X pc)
theorem fk_164_21 (X : ez_X) (pc : Nat) : fx_ok X (ft_164_21 X pc) (ez_t164_21 pc) := by
  delta ft_164_21 ez_t164_21
  exact fx_cnd (fk_164_17 X pc) (fk_164_20 X pc)
theorem fk_164_22 (X : ez_X) (pc : Nat) : fx_ok X (ft_164_22 X pc) (ez_t164_22 pc) := by
  delta ft_164_22 ez_t164_22
  exact fx_cnd (fx_cnd (fx_cnd (fx_cnd (fun _ _ _ _ _ _ _ _ => rfl) fx_no) (fx_cnd (fun _ _ _ _ _ _ _ _ => rfl) fx_no)) (fx_cnd (fx_cnd (fun _ _ _ _ _ _ _ _ => rfl) fx_no) (fx_cnd (fun _ _ _ _ _ _ _ _ => rfl) fx_no))) (fx_cnd (fx_cnd (fx_cnd (fun _ _ _ _ _ _ _ _ => rfl) fx_no) (fx_cnd (fun _ _ _ _ _ _ _ _ => rfl) fx_no)) (fx_cnd (fx_cnd (fun _ _ _ _ _ _ _ _ => rfl) fx_no) (fx_cnd (fun _ _ _ _ _ _ _ _ => rfl) fx_no)))
theorem fk_164_23 (X : ez_X) (pc : Nat) : fx_ok X (ft_164_23 X pc) (ez_t164_23 pc) := by
  delta ft_164_23 ez_t164_23
  exact fx_cnd (fx_cnd (fx_cnd (fx_cnd (fun _ _ _ _ _ _ _ _ => rfl) fx_no) (fx_cnd (fun _ _ _ _ _ _ _ _ => rfl) fx_no)) (fx_cnd (fx_cnd (fun _ _ _ _ _ _ _ _ => rfl) fx_no) (fx_cnd (fun _ _ _ _ _ _ _ _ => rfl) fx_no))) (fx_cnd (fx_cnd (fx_cnd (fun _ _ _ _ _ _ _ _ => rfl) fx_no) (fx_cnd (fun _ _ _ _ _ _ _ _ => rfl) fx_no)) (fx_cnd (fx_cnd (fun _ _ _ _ _ _ _ _ => rfl) fx_no) (fx_cnd (fx_cnd (fun _ _ _ _ _ _ _ _ => rfl) fx_no) (fx_cnd (fun _ _ _ _ _ _ _ _ => rfl) fx_no))))
theorem fk_164_24 (X : ez_X) (pc : Nat) : fx_ok X (ft_164_24 X pc) (ez_t164_24 pc) := by
  delta ft_164_24 ez_t164_24
  exact fx_cnd (fk_164_22 X pc) (fk_164_23 X pc)
theorem fk_164_25 (X : ez_X) (pc : Nat) : fx_ok X (ft_164_25 X pc) (ez_t164_25 pc) := by
  delta ft_164_25 ez_t164_25
  exact fx_cnd (fx_cnd (fx_cnd (fx_cnd (fun _ _ _ _ _ _ _ _ => rfl) fx_no) (fx_cnd (fun _ _ _ _ _ _ _ _ => rfl) fx_no)) (fx_cnd (fx_cnd (fun _ _ _ _ _ _ _ _ => rfl) fx_no) (fx_cnd (fun _ _ _ _ _ _ _ _ => rfl) fx_no))) (fx_cnd (fx_cnd (fx_cnd (fun _ _ _ _ _ _ _ _ => rfl) fx_no) (fx_cnd (fun _ _ _ _ _ _ _ _ => rfl) fx_no)) (fx_cnd (fx_cnd (fun _ _ _ _ _ _ _ _ => rfl) fx_no) (fx_cnd (fx_cnd (fun _ _ _ _ _ _ _ _ => rfl) fx_no) (fx_cnd (fun _ _ _ _ _ _ _ _ => rfl) fx_no))))
theorem fk_164_26 (X : ez_X) (pc : Nat) : fx_ok X (ft_164_26 X pc) (ez_t164_26 pc) := by
  delta ft_164_26 ez_t164_26
  exact fx_cnd (fx_cnd (fx_cnd (fx_cnd (fun _ _ _ _ _ _ _ _ => rfl) fx_no) (fx_cnd (fun _ _ _ _ _ _ _ _ => rfl) fx_no)) (fx_cnd (fx_cnd (fun _ _ _ _ _ _ _ _ => rfl) fx_no) (fx_cnd (fun _ _ _ _ _ _ _ _ => rfl) fx_no))) (fx_cnd (fx_cnd (fx_cnd (fun _ _ _ _ _ _ _ _ => rfl) fx_no) (fx_cnd (fun _ _ _ _ _ _ _ _ => rfl) fx_no)) (fx_cnd (fx_cnd (fun _ _ _ _ _ _ _ _ => rfl) fx_no) (fx_cnd (fx_cnd (fun _ _ _ _ _ _ _ _ => rfl) fx_no) (fx_cnd (fun _ _ _ _ _ _ _ _ => rfl) fx_no))))
theorem fk_164_27 (X : ez_X) (pc : Nat) : fx_ok X (ft_164_27 X pc) (ez_t164_27 pc) := by
  delta ft_164_27 ez_t164_27
  exact fx_cnd (fk_164_25 X pc) (fk_164_26 X pc)
theorem fk_164_28 (X : ez_X) (pc : Nat) : fx_ok X (ft_164_28 X pc) (ez_t164_28 pc) := by
  delta ft_164_28 ez_t164_28
  exact fx_cnd (fk_164_24 X pc) (fk_164_27 X pc)
theorem fk_164_29 (X : ez_X) (pc : Nat) : fx_ok X (ft_164_29 X pc) (ez_t164_29 pc) := by
  delta ft_164_29 ez_t164_29
  exact fx_cnd (fk_164_21 X pc) (fk_164_28 X pc)
theorem fk_164 (X : ez_X) (pc : Nat) : fx_ok X (ft_164 X pc) (ez_t164 pc) := by
  delta ft_164 ez_t164
  exact fx_cnd (fk_164_14 X pc) (fk_164_29 X pc)
theorem fk_165_0 (X : ez_X) (pc : Nat) : fx_ok X (ft_165_0 X pc) (ez_t165_0 pc) := by
  delta ft_165_0 ez_t165_0
  exact fx_cnd (fx_cnd (fx_cnd (fun _ _ _ _ _ _ _ _ => rfl) fx_no) (fx_cnd (fx_cnd (fun _ _ _ _ _ _ _ _ => rfl) fx_no) (fx_cnd (fun _ _ _ _ _ _ _ _ => rfl) fx_no))) (fx_cnd (fx_cnd (fun _ _ _ _ _ _ _ _ => rfl) fx_no) (fx_cnd (fx_cnd (fun _ _ _ _ _ _ _ _ => rfl) fx_no) (fx_cnd (fun _ _ _ _ _ _ _ _ => rfl) fx_no)))
theorem fk_165_1 (X : ez_X) (pc : Nat) : fx_ok X (ft_165_1 X pc) (ez_t165_1 pc) := by
  delta ft_165_1 ez_t165_1
  exact fx_cnd (fx_cnd (fx_cnd (fun _ _ _ _ _ _ _ _ => rfl) fx_no) (fx_cnd (fx_cnd (fun _ _ _ _ _ _ _ _ => rfl) fx_no) (fx_cnd (fun _ _ _ _ _ _ _ _ => rfl) fx_no))) (fx_cnd (fx_cnd (fx_cnd (fun _ _ _ _ _ _ _ _ => rfl) fx_no) (fx_cnd (fun _ _ _ _ _ _ _ _ => rfl) fx_no)) (fx_cnd (fx_cnd (fun _ _ _ _ _ _ _ _ => rfl) fx_no) (fx_cnd (fun _ _ _ _ _ _ _ _ => rfl) fx_no)))
theorem fk_165_2 (X : ez_X) (pc : Nat) : fx_ok X (ft_165_2 X pc) (ez_t165_2 pc) := by
  delta ft_165_2 ez_t165_2
  exact fx_cnd (fk_165_0 X pc) (fk_165_1 X pc)
theorem fk_165_3 (X : ez_X) (pc : Nat) : fx_ok X (ft_165_3 X pc) (ez_t165_3 pc) := by
  delta ft_165_3 ez_t165_3
  exact fx_cnd (fx_cnd (fx_cnd (fun _ _ _ _ _ _ _ _ => rfl) fx_no) (fx_cnd (fx_cnd (fun _ _ _ _ _ _ _ _ => rfl) fx_no) (fx_cnd (fun _ _ _ _ _ _ _ _ => rfl) fx_no))) (fx_cnd (fx_cnd (fx_cnd (fun _ _ _ _ _ _ _ _ => rfl) fx_no) (fx_cnd (fun _ _ _ _ _ _ _ _ => rfl) fx_no)) (fx_cnd (fx_cnd (fun _ _ _ _ _ _ _ _ => rfl) fx_no) (fx_cnd (fun _ _ _ _ _ _ _ _ => rfl) fx_no)))
theorem fk_165_4 (X : ez_X) (pc : Nat) : fx_ok X (ft_165_4 X pc) (ez_t165_4 pc) := by
  delta ft_165_4 ez_t165_4
  exact fx_cnd (fx_cnd (fx_cnd (fun _ _ _ _ _ _ _ _ => rfl) fx_no) (fx_cnd (fx_cnd (fun _ _ _ _ _ _ _ _ => rfl) fx_no) (fx_cnd (fun _ _ _ _ _ _ _ _ => rfl) fx_no))) (fx_cnd (fx_cnd (fx_cnd (fun _ _ _ _ _ _ _ _ => rfl) fx_no) (fx_cnd (fun _ _ _ _ _ _ _ _ => rfl) fx_no)) (fx_cnd (fx_cnd (fun _ _ _ _ _ _ _ _ => rfl) fx_no) (fx_cnd (fun _ _ _ _ _ _ _ _ => rfl) fx_no)))
theorem fk_165_5 (X : ez_X) (pc : Nat) : fx_ok X (ft_165_5 X pc) (ez_t165_5 pc) := by
  delta ft_165_5 ez_t165_5
  exact fx_cnd (fk_165_3 X pc) (fk_165_4 X pc)
theorem fk_165_6 (X : ez_X) (pc : Nat) : fx_ok X (ft_165_6 X pc) (ez_t165_6 pc) := by
  delta ft_165_6 ez_t165_6
  exact fx_cnd (fk_165_2 X pc) (fk_165_5 X pc)
theorem fk_165_7 (X : ez_X) (pc : Nat) : fx_ok X (ft_165_7 X pc) (ez_t165_7 pc) := by
  delta ft_165_7 ez_t165_7
  exact fx_cnd (fx_cnd (fx_cnd (fun _ _ _ _ _ _ _ _ => rfl) fx_no) (fx_cnd (fx_cnd (fun _ _ _ _ _ _ _ _ => rfl) fx_no) (fx_cnd (fun _ _ _ _ _ _ _ _ => rfl) fx_no))) (fx_cnd (fx_cnd (fun _ _ _ _ _ _ _ _ => rfl) fx_no) (fx_cnd (fx_cnd (fun _ _ _ _ _ _ _ _ => rfl) fx_no) (fx_cnd (fun _ _ _ _ _ _ _ _ => rfl) fx_no)))
theorem fk_165_8 (X : ez_X) (pc : Nat) : fx_ok X (ft_165_8 X pc) (ez_t165_8 pc) := by
  delta ft_165_8 ez_t165_8
  exact fx_cnd (fx_cnd (fx_cnd (fun _ _ _ _ _ _ _ _ => rfl) fx_no) (fx_cnd (fx_cnd (fun _ _ _ _ _ _ _ _ => rfl) fx_no) (fx_cnd (fun _ _ _ _ _ _ _ _ => rfl) fx_no))) (fx_cnd (fx_cnd (fx_cnd (fun _ _ _ _ _ _ _ _ => rfl) fx_no) (fx_cnd (fun _ _ _ _ _ _ _ _ => rfl) fx_no)) (fx_cnd (fx_cnd (fun _ _ _ _ _ _ _ _ => rfl) fx_no) (fx_cnd (fun _ _ _ _ _ _ _ _ => rfl) fx_no)))
theorem fk_165_9 (X : ez_X) (pc : Nat) : fx_ok X (ft_165_9 X pc) (ez_t165_9 pc) := by
  delta ft_165_9 ez_t165_9
  exact fx_cnd (fk_165_7 X pc) (fk_165_8 X pc)
theorem fk_165_10 (X : ez_X) (pc : Nat) : fx_ok X (ft_165_10 X pc) (ez_t165_10 pc) := by
  delta ft_165_10 ez_t165_10
  exact fx_cnd (fx_cnd (fx_cnd (fun _ _ _ _ _ _ _ _ => rfl) fx_no) (fx_cnd (fx_cnd (fun _ _ _ _ _ _ _ _ => rfl) fx_no) (fx_cnd (fun _ _ _ _ _ _ _ _ => rfl) fx_no))) (fx_cnd (fx_cnd (fx_cnd (fun _ _ _ _ _ _ _ _ => rfl) fx_no) (fx_cnd (fun _ _ _ _ _ _ _ _ => rfl) fx_no)) (fx_cnd (fx_cnd (fun _ _ _ _ _ _ _ _ => rfl) fx_no) (fx_cnd (fun _ _ _ _ _ _ _ _ => rfl) fx_no)))
theorem fk_165_11 (X : ez_X) (pc : Nat) : fx_ok X (ft_165_11 X pc) (ez_t165_11 pc) := by
  delta ft_165_11 ez_t165_11
  exact fx_cnd (fx_cnd (fx_cnd (fun _ _ _ _ _ _ _ _ => rfl) fx_no) (fx_cnd (fx_cnd (fun _ _ _ _ _ _ _ _ => rfl) fx_no) (fx_cnd (fun _ _ _ _ _ _ _ _ => rfl) fx_no))) (fx_cnd (fx_cnd (fx_cnd (fun _ _ _ _ _ _ _ _ => rfl) fx_no) (fx_cnd (fun _ _ _ _ _ _ _ _ => rfl) fx_no)) (fx_cnd (fx_cnd (fun _ _ _ _ _ _ _ _ => rfl) fx_no) (fx_cnd (fun _ _ _ _ _ _ _ _ => rfl) fx_no)))
theorem fk_165_12 (X : ez_X) (pc : Nat) : fx_ok X (ft_165_12 X pc) (ez_t165_12 pc) := by
  delta ft_165_12 ez_t165_12
  exact fx_cnd (fk_165_10 X pc) (fk_165_11 X pc)
theorem fk_165_13 (X : ez_X) (pc : Nat) : fx_ok X (ft_165_13 X pc) (ez_t165_13 pc) := by
  delta ft_165_13 ez_t165_13
  exact fx_cnd (fk_165_9 X pc) (fk_165_12 X pc)
theorem fk_165_14 (X : ez_X) (pc : Nat) : fx_ok X (ft_165_14 X pc) (ez_t165_14 pc) := by
  delta ft_165_14 ez_t165_14
  exact fx_cnd (fk_165_6 X pc) (fk_165_13 X pc)
theorem fk_165_15 (X : ez_X) (pc : Nat) : fx_ok X (ft_165_15 X pc) (ez_t165_15 pc) := by
  delta ft_165_15 ez_t165_15
  exact fx_cnd (fx_cnd (fx_cnd (fun _ _ _ _ _ _ _ _ => rfl) fx_no) (fx_cnd (fx_cnd (fun _ _ _ _ _ _ _ _ => rfl) fx_no) (fx_cnd (fun _ _ _ _ _ _ _ _ => rfl) fx_no))) (fx_cnd (fx_cnd (fun _ _ _ _ _ _ _ _ => rfl) fx_no) (fx_cnd (fx_cnd (fun _ _ _ _ _ _ _ _ => rfl) fx_no) (fx_cnd (fun _ _ _ _ _ _ _ _ => rfl) fx_no)))
theorem fk_165_16 (X : ez_X) (pc : Nat) : fx_ok X (ft_165_16 X pc) (ez_t165_16 pc) := by
  delta ft_165_16 ez_t165_16
  exact fx_cnd (fx_cnd (fx_cnd (fun _ _ _ _ _ _ _ _ => rfl) fx_no) (fx_cnd (fx_cnd (fun _ _ _ _ _ _ _ _ => rfl) fx_no) (fx_cnd (fun _ _ _ _ _ _ _ _ => rfl) fx_no))) (fx_cnd (fx_cnd (fx_cnd (fun _ _ _ _ _ _ _ _ => rfl) fx_no) (fx_cnd (fun _ _ _ _ _ _ _ _ => rfl) fx_no)) (fx_cnd (fx_cnd (fun _ _ _ _ _ _ _ _ => rfl) fx_no) (fx_cnd (fun _ _ _ _ _ _ _ _ => rfl) fx_no)))
theorem fk_165_17 (X : ez_X) (pc : Nat) : fx_ok X (ft_165_17 X pc) (ez_t165_17 pc) := by
  delta ft_165_17 ez_t165_17
  exact fx_cnd (fk_165_15 X pc) (fk_165_16 X pc)
theorem fk_165_18 (X : ez_X) (pc : Nat) : fx_ok X (ft_165_18 X pc) (ez_t165_18 pc) := by
  delta ft_165_18 ez_t165_18
  exact fx_cnd (fx_cnd (fx_cnd (fun _ _ _ _ _ _ _ _ => rfl) fx_no) (fx_cnd (fx_cnd (fun _ _ _ _ _ _ _ _ => rfl) fx_no) (fx_cnd (fun _ _ _ _ _ _ _ _ => rfl) fx_no))) (fx_cnd (fx_cnd (fx_cnd (fun _ _ _ _ _ _ _ _ => rfl) fx_no) (fx_cnd (fun _ _ _ _ _ _ _ _ => rfl) fx_no)) (fx_cnd (fx_cnd (fun _ _ _ _ _ _ _ _ => rfl) fx_no) (fx_cnd (fun _ _ _ _ _ _ _ _ => rfl) fx_no)))
theorem fk_165_19 (X : ez_X) (pc : Nat) : fx_ok X (ft_165_19 X pc) (ez_t165_19 pc) := by
  delta ft_165_19 ez_t165_19
  exact fx_cnd (fx_cnd (fx_cnd (fun _ _ _ _ _ _ _ _ => rfl) fx_no) (fx_cnd (fx_cnd (fun _ _ _ _ _ _ _ _ => rfl) fx_no) (fx_cnd (fun _ _ _ _ _ _ _ _ => rfl) fx_no))) (fx_cnd (fx_cnd (fx_cnd (fun _ _ _ _ _ _ _ _ => rfl) fx_no) (fx_cnd (fun _ _ _ _ _ _ _ _ => rfl) fx_no)) (fx_cnd (fx_cnd (fun _ _ _ _ _ _ _ _ => rfl) fx_no) (fx_cnd (fun _ _ _ _ _ _ _ _ => rfl) fx_no)))
theorem fk_165_20 (X : ez_X) (pc : Nat) : fx_ok X (ft_165_20 X pc) (ez_t165_20 pc) := by
  delta ft_165_20 ez_t165_20
  exact fx_cnd (fk_165_18 X pc) (fk_165_19 X pc)
theorem fk_165_21 (X : ez_X) (pc : Nat) : fx_ok X (ft_165_21 X pc) (ez_t165_21 pc) := by
  delta ft_165_21 ez_t165_21
  exact fx_cnd (fk_165_17 X pc) (fk_165_20 X pc)
theorem fk_165_22 (X : ez_X) (pc : Nat) : fx_ok X (ft_165_22 X pc) (ez_t165_22 pc) := by
  delta ft_165_22 ez_t165_22
  exact fx_cnd (fx_cnd (fx_cnd (fun _ _ _ _ _ _ _ _ => rfl) fx_no) (fx_cnd (fx_cnd (fun _ _ _ _ _ _ _ _ => rfl) fx_no) (fx_cnd (fun _ _ _ _ _ _ _ _ => rfl) fx_no))) (fx_cnd (fx_cnd (fun _ _ _ _ _ _ _ _ => rfl) fx_no) (fx_cnd (fx_cnd (fun _ _ _ _ _ _ _ _ => rfl) fx_no) (fx_cnd (fun _ _ _ _ _ _ _ _ => rfl) fx_no)))
theorem fk_165_23 (X : ez_X) (pc : Nat) : fx_ok X (ft_165_23 X pc) (ez_t165_23 pc) := by
  delta ft_165_23 ez_t165_23
  exact fx_cnd (fx_cnd (fx_cnd (fun _ _ _ _ _ _ _ _ => rfl) fx_no) (fx_cnd (fx_cnd (fun _ _ _ _ _ _ _ _ => rfl) fx_no) (fx_cnd (fun _ _ _ _ _ _ _ _ => rfl) fx_no))) (fx_cnd (fx_cnd (fx_cnd (fun _ _ _ _ _ _ _ _ => rfl) fx_no) (fx_cnd (fun _ _ _ _ _ _ _ _ => rfl) fx_no)) (fx_cnd (fx_cnd (fun _ _ _ _ _ _ _ _ => rfl) fx_no) (fx_cnd (fun _ _ _ _ _ _ _ _ => rfl) fx_no)))
theorem fk_165_24 (X : ez_X) (pc : Nat) : fx_ok X (ft_165_24 X pc) (ez_t165_24 pc) := by
  delta ft_165_24 ez_t165_24
  exact fx_cnd (fk_165_22 X pc) (fk_165_23 X pc)
theorem fk_165_25 (X : ez_X) (pc : Nat) : fx_ok X (ft_165_25 X pc) (ez_t165_25 pc) := by
  delta ft_165_25 ez_t165_25
  exact fx_cnd (fx_cnd (fx_cnd (fun _ _ _ _ _ _ _ _ => rfl) fx_no) (fx_cnd (fx_cnd (fun _ _ _ _ _ _ _ _ => rfl) fx_no) (fx_cnd (fun _ _ _ _ _ _ _ _ => rfl) fx_no))) (fx_cnd (fx_cnd (fx_cnd (fun _ _ _ _ _ _ _ _ => rfl) fx_no) (fx_cnd (fun _ _ _ _ _ _ _ _ => rfl) fx_no)) (fx_cnd (fx_cnd (fun _ _ _ _ _ _ _ _ => rfl) fx_no) (fx_cnd (fun _ _ _ _ _ _ _ _ => rfl) fx_no)))
theorem fk_165_26 (X : ez_X) (pc : Nat) : fx_ok X (ft_165_26 X pc) (ez_t165_26 pc) := by
  delta ft_165_26 ez_t165_26
  exact fx_cnd (fx_cnd (fx_cnd (fun _ _ _ _ _ _ _ _ => rfl) fx_no) (fx_cnd (fx_cnd (fun _ _ _ _ _ _ _ _ => rfl) fx_no) (fx_cnd (fun _ _ _ _ _ _ _ _ => rfl) fx_no))) (fx_cnd (fx_cnd (fx_cnd (fun _ _ _ _ _ _ _ _ => rfl) fx_no) (fx_cnd (fun _ _ _ _ _ _ _ _ => rfl) fx_no)) (fx_cnd (fx_cnd (fun _ _ _ _ _ _ _ _ => rfl) fx_no) (fx_cnd (fun _ _ _ _ _ _ _ _ => rfl) fx_no)))
theorem fk_165_27 (X : ez_X) (pc : Nat) : fx_ok X (ft_165_27 X pc) (ez_t165_27 pc) := by
  delta ft_165_27 ez_t165_27
  exact fx_cnd (fk_165_25 X pc) (fk_165_26 X pc)
theorem fk_165_28 (X : ez_X) (pc : Nat) : fx_ok X (ft_165_28 X pc) (ez_t165_28 pc) := by
  delta ft_165_28 ez_t165_28
  exact fx_cnd (fk_165_24 X pc) (fk_165_27 X pc)
theorem fk_165_29 (X : ez_X) (pc : Nat) : fx_ok X (ft_165_29 X pc) (ez_t165_29 pc) := by
  delta ft_165_29 ez_t165_29
  exact fx_cnd (fk_165_21 X pc) (fk_165_28 X pc)
theorem fk_165 (X : ez_X) (pc : Nat) : fx_ok X (ft_165 X pc) (ez_t165 pc) := by
  delta ft_165 ez_t165
  exact fx_cnd (fk_165_14 X pc) (fk_165_29 X pc)
theorem fk_166_0 (X : ez_X) (pc : Nat) : fx_ok X (ft_166_0 X pc) (ez_t166_0 pc) := by
  delta ft_166_0 ez_t166_0
  exact fx_cnd (fx_cnd (fx_cnd (fun _ _ _ _ _ _ _ _ => rfl) fx_no) (fx_cnd (fx_cnd (fun _ _ _ _ _ _ _ _ => rfl) fx_no) (fx_cnd (fun _ _ _ _ _ _ _ _ => rfl) fx_no))) (fx_cnd (fx_cnd (fun _ _ _ _ _ _ _ _ => rfl) fx_no) (fx_cnd (fx_cnd (fun _ _ _ _ _ _ _ _ => rfl) fx_no) (fx_cnd (fun _ _ _ _ _ _ _ _ => rfl) fx_no)))
theorem fk_166_1 (X : ez_X) (pc : Nat) : fx_ok X (ft_166_1 X pc) (ez_t166_1 pc) := by
  delta ft_166_1 ez_t166_1
  exact fx_cnd (fx_cnd (fx_cnd (fun _ _ _ _ _ _ _ _ => rfl) fx_no) (fx_cnd (fx_cnd (fun _ _ _ _ _ _ _ _ => rfl) fx_no) (fx_cnd (fun _ _ _ _ _ _ _ _ => rfl) fx_no))) (fx_cnd (fx_cnd (fx_cnd (fun _ _ _ _ _ _ _ _ => rfl) fx_no) (fx_cnd (fun _ _ _ _ _ _ _ _ => rfl) fx_no)) (fx_cnd (fx_cnd (fun _ _ _ _ _ _ _ _ => rfl) fx_no) (fx_cnd (fun _ _ _ _ _ _ _ _ => rfl) fx_no)))
theorem fk_166_2 (X : ez_X) (pc : Nat) : fx_ok X (ft_166_2 X pc) (ez_t166_2 pc) := by
  delta ft_166_2 ez_t166_2
  exact fx_cnd (fk_166_0 X pc) (fk_166_1 X pc)
theorem fk_166_3 (X : ez_X) (pc : Nat) : fx_ok X (ft_166_3 X pc) (ez_t166_3 pc) := by
  delta ft_166_3 ez_t166_3
  exact fx_cnd (fx_cnd (fx_cnd (fun _ _ _ _ _ _ _ _ => rfl) fx_no) (fx_cnd (fx_cnd (fun _ _ _ _ _ _ _ _ => rfl) fx_no) (fx_cnd (fun _ _ _ _ _ _ _ _ => rfl) fx_no))) (fx_cnd (fx_cnd (fun _ _ _ _ _ _ _ _ => rfl) fx_no) (fx_cnd (fx_cnd (fun _ _ _ _ _ _ _ _ => rfl) fx_no) (fx_cnd (fun _ _ _ _ _ _ _ _ => rfl) fx_no)))
theorem fk_166_4 (X : ez_X) (pc : Nat) : fx_ok X (ft_166_4 X pc) (ez_t166_4 pc) := by
  delta ft_166_4 ez_t166_4
  exact fx_cnd (fx_cnd (fx_cnd (fun _ _ _ _ _ _ _ _ => rfl) fx_no) (fx_cnd (fx_cnd (fun _ _ _ _ _ _ _ _ => rfl) fx_no) (fx_cnd (fun _ _ _ _ _ _ _ _ => rfl) fx_no))) (fx_cnd (fx_cnd (fx_cnd (fun _ _ _ _ _ _ _ _ => rfl) fx_no) (fx_cnd (fun _ _ _ _ _ _ _ _ => rfl) fx_no)) (fx_cnd (fx_cnd (fun _ _ _ _ _ _ _ _ => rfl) fx_no) (fx_cnd (fun _ _ _ _ _ _ _ _ => rfl) fx_no)))
theorem fk_166_5 (X : ez_X) (pc : Nat) : fx_ok X (ft_166_5 X pc) (ez_t166_5 pc) := by
  delta ft_166_5 ez_t166_5
  exact fx_cnd (fk_166_3 X pc) (fk_166_4 X pc)
theorem fk_166 (X : ez_X) (pc : Nat) : fx_ok X (ft_166 X pc) (ez_t166 pc) := by
  delta ft_166 ez_t166
  exact fx_cnd (fk_166_2 X pc) (fk_166_5 X pc)
theorem fk_167_0 (X : ez_X) (pc : Nat) : fx_ok X (ft_167_0 X pc) (ez_t167_0 pc) := by
  delta ft_167_0 ez_t167_0
  exact fx_cnd (fx_cnd (fx_cnd (fx_cnd (fun _ _ _ _ _ _ _ _ => rfl) fx_no) (fx_cnd (fun _ _ _ _ _ _ _ _ => rfl) fx_no)) (fx_cnd (fx_cnd (fun _ _ _ _ _ _ _ _ => rfl) fx_no) (fx_cnd (fx_cnd (fun _ _ _ _ _ _ _ _ => rfl) fx_no) (fx_cnd (fun _ _ _ _ _ _ _ _ => rfl) fx_no)))) (fx_cnd (fx_cnd (fx_cnd (fun _ _ _ _ _ _ _ _ => rfl) fx_no) (fx_cnd (fx_cnd (fun _ _ _ _ _ _ _ _ => rfl) fx_no) (fx_cnd (fun _ _ _ _ _ _ _ _ => rfl) fx_no))) (fx_cnd (fx_cnd (fun _ _ _ _ _ _ _ _ => rfl) fx_no) (fx_cnd (fx_cnd (fun _ _ _ _ _ _ _ _ => rfl) fx_no) (fx_cnd (fun _ _ _ _ _ _ _ _ => rfl) fx_no))))
theorem fk_167_1 (X : ez_X) (pc : Nat) : fx_ok X (ft_167_1 X pc) (ez_t167_1 pc) := by
  delta ft_167_1 ez_t167_1
  exact fx_cnd (fx_cnd (fx_cnd (fx_cnd (fun _ _ _ _ _ _ _ _ => rfl) fx_no) (fx_cnd (fun _ _ _ _ _ _ _ _ => rfl) fx_no)) (fx_cnd (fx_cnd (fun _ _ _ _ _ _ _ _ => rfl) fx_no) (fx_cnd (fx_cnd (fun _ _ _ _ _ _ _ _ => rfl) fx_no) (fx_cnd (fun _ _ _ _ _ _ _ _ => rfl) fx_no)))) (fx_cnd (fx_cnd (fx_cnd (fun _ _ _ _ _ _ _ _ => rfl) fx_no) (fx_cnd (fx_cnd (fun _ _ _ _ _ _ _ _ => rfl) fx_no) (fx_cnd (fun _ _ _ _ _ _ _ _ => rfl) fx_no))) (fx_cnd (fx_cnd (fun _ _ _ _ _ _ _ _ => rfl) fx_no) (fx_cnd (fx_cnd (fun _ _ _ _ _ _ _ _ => rfl) fx_no) (fx_cnd (fun _ _ _ _ _ _ _ _ => rfl) fx_no))))
theorem fk_167_2 (X : ez_X) (pc : Nat) : fx_ok X (ft_167_2 X pc) (ez_t167_2 pc) := by
  delta ft_167_2 ez_t167_2
  exact fx_cnd (fk_167_0 X pc) (fk_167_1 X pc)
theorem fk_167_3 (X : ez_X) (pc : Nat) : fx_ok X (ft_167_3 X pc) (ez_t167_3 pc) := by
  delta ft_167_3 ez_t167_3
  exact fx_cnd (fx_cnd (fx_cnd (fx_cnd (fun _ _ _ _ _ _ _ _ => rfl) fx_no) (fx_cnd (fun _ _ _ _ _ _ _ _ => rfl) fx_no)) (fx_cnd (fx_cnd (fun _ _ _ _ _ _ _ _ => rfl) fx_no) (fx_cnd (fx_cnd (fun _ _ _ _ _ _ _ _ => rfl) fx_no) (fx_cnd (fun _ _ _ _ _ _ _ _ => rfl) fx_no)))) (fx_cnd (fx_cnd (fx_cnd (fun _ _ _ _ _ _ _ _ => rfl) fx_no) (fx_cnd (fx_cnd (fun _ _ _ _ _ _ _ _ => rfl) fx_no) (fx_cnd (fun _ _ _ _ _ _ _ _ => rfl) fx_no))) (fx_cnd (fx_cnd (fun _ _ _ _ _ _ _ _ => rfl) fx_no) (fx_cnd (fx_cnd (fun _ _ _ _ _ _ _ _ => rfl) fx_no) (fx_cnd (fun _ _ _ _ _ _ _ _ => rfl) fx_no))))
theorem fk_167_4 (X : ez_X) (pc : Nat) : fx_ok X (ft_167_4 X pc) (ez_t167_4 pc) := by
  delta ft_167_4 ez_t167_4
  exact fx_cnd (fx_cnd (fx_cnd (fx_cnd (fun _ _ _ _ _ _ _ _ => rfl) fx_no) (fx_cnd (fun _ _ _ _ _ _ _ _ => rfl) fx_no)) (fx_cnd (fx_cnd (fun _ _ _ _ _ _ _ _ => rfl) fx_no) (fx_cnd (fx_cnd (fun _ _ _ _ _ _ _ _ => rfl) fx_no) (fx_cnd (fun _ _ _ _ _ _ _ _ => rfl) fx_no)))) (fx_cnd (fx_cnd (fx_cnd (fun _ _ _ _ _ _ _ _ => rfl) fx_no) (fx_cnd (fx_cnd (fun _ _ _ _ _ _ _ _ => rfl) fx_no) (fx_cnd (fun _ _ _ _ _ _ _ _ => rfl) fx_no))) (fx_cnd (fx_cnd (fun _ _ _ _ _ _ _ _ => rfl) fx_no) (fx_cnd (fx_cnd (fun _ _ _ _ _ _ _ _ => rfl) fx_no) (fx_cnd (fun _ _ _ _ _ _ _ _ => rfl) fx_no))))
theorem fk_167_5 (X : ez_X) (pc : Nat) : fx_ok X (ft_167_5 X pc) (ez_t167_5 pc) := by
  delta ft_167_5 ez_t167_5
  exact fx_cnd (fk_167_3 X pc) (fk_167_4 X pc)
theorem fk_167_6 (X : ez_X) (pc : Nat) : fx_ok X (ft_167_6 X pc) (ez_t167_6 pc) := by
  delta ft_167_6 ez_t167_6
  exact fx_cnd (fk_167_2 X pc) (fk_167_5 X pc)
theorem fk_167_7 (X : ez_X) (pc : Nat) : fx_ok X (ft_167_7 X pc) (ez_t167_7 pc) := by
  delta ft_167_7 ez_t167_7
  exact fx_cnd (fx_cnd (fx_cnd (fx_cnd (fun _ _ _ _ _ _ _ _ => rfl) fx_no) (fx_cnd (fun _ _ _ _ _ _ _ _ => rfl) fx_no)) (fx_cnd (fx_cnd (fun _ _ _ _ _ _ _ _ => rfl) fx_no) (fx_cnd (fx_cnd (fun _ _ _ _ _ _ _ _ => rfl) fx_no) (fx_cnd (fun _ _ _ _ _ _ _ _ => rfl) fx_no)))) (fx_cnd (fx_cnd (fx_cnd (fun _ _ _ _ _ _ _ _ => rfl) fx_no) (fx_cnd (fx_cnd (fun _ _ _ _ _ _ _ _ => rfl) fx_no) (fx_cnd (fun _ _ _ _ _ _ _ _ => rfl) fx_no))) (fx_cnd (fx_cnd (fun _ _ _ _ _ _ _ _ => rfl) fx_no) (fx_cnd (fx_cnd (fun _ _ _ _ _ _ _ _ => rfl) fx_no) (fx_cnd (fun _ _ _ _ _ _ _ _ => rfl) fx_no))))
theorem fk_167_8 (X : ez_X) (pc : Nat) : fx_ok X (ft_167_8 X pc) (ez_t167_8 pc) := by
  delta ft_167_8 ez_t167_8
  exact fx_cnd (fx_cnd (fx_cnd (fx_cnd (fun _ _ _ _ _ _ _ _ => rfl) fx_no) (fx_cnd (fun _ _ _ _ _ _ _ _ => rfl) fx_no)) (fx_cnd (fx_cnd (fun _ _ _ _ _ _ _ _ => rfl) fx_no) (fx_cnd (fx_cnd (fun _ _ _ _ _ _ _ _ => rfl) fx_no) (fx_cnd (fun _ _ _ _ _ _ _ _ => rfl) fx_no)))) (fx_cnd (fx_cnd (fx_cnd (fun _ _ _ _ _ _ _ _ => rfl) fx_no) (fx_cnd (fx_cnd (fun _ _ _ _ _ _ _ _ => rfl) fx_no) (fx_cnd (fun _ _ _ _ _ _ _ _ => rfl) fx_no))) (fx_cnd (fx_cnd (fun _ _ _ _ _ _ _ _ => rfl) fx_no) (fx_cnd (fx_cnd (fun _ _ _ _ _ _ _ _ => rfl) fx_no) (fx_cnd (fun _ _ _ _ _ _ _ _ => rfl) fx_no))))
theorem fk_167_9 (X : ez_X) (pc : Nat) : fx_ok X (ft_167_9 X pc) (ez_t167_9 pc) := by
  delta ft_167_9 ez_t167_9
  exact fx_cnd (fk_167_7 X pc) (fk_167_8 X pc)
theorem fk_167_10 (X : ez_X) (pc : Nat) : fx_ok X (ft_167_10 X pc) (ez_t167_10 pc) := by
  delta ft_167_10 ez_t167_10
  exact fx_cnd (fx_cnd (fx_cnd (fx_cnd (fun _ _ _ _ _ _ _ _ => rfl) fx_no) (fx_cnd (fun _ _ _ _ _ _ _ _ => rfl) fx_no)) (fx_cnd (fx_cnd (fun _ _ _ _ _ _ _ _ => rfl) fx_no) (fx_cnd (fx_cnd (fun _ _ _ _ _ _ _ _ => rfl) fx_no) (fx_cnd (fun _ _ _ _ _ _ _ _ => rfl) fx_no)))) (fx_cnd (fx_cnd (fx_cnd (fun _ _ _ _ _ _ _ _ => rfl) fx_no) (fx_cnd (fx_cnd (fun _ _ _ _ _ _ _ _ => rfl) fx_no) (fx_cnd (fun _ _ _ _ _ _ _ _ => rfl) fx_no))) (fx_cnd (fx_cnd (fun _ _ _ _ _ _ _ _ => rfl) fx_no) (fx_cnd (fx_cnd (fun _ _ _ _ _ _ _ _ => rfl) fx_no) (fx_cnd (fun _ _ _ _ _ _ _ _ => rfl) fx_no))))
theorem fk_167_11 (X : ez_X) (pc : Nat) : fx_ok X (ft_167_11 X pc) (ez_t167_11 pc) := by
  delta ft_167_11 ez_t167_11
  exact fx_cnd (fx_cnd (fx_cnd (fx_cnd (fun _ _ _ _ _ _ _ _ => rfl) fx_no) (fx_cnd (fun _ _ _ _ _ _ _ _ => rfl) fx_no)) (fx_cnd (fx_cnd (fun _ _ _ _ _ _ _ _ => rfl) fx_no) (fx_cnd (fx_cnd (fun _ _ _ _ _ _ _ _ => rfl) fx_no) (fx_cnd (fun _ _ _ _ _ _ _ _ => rfl) fx_no)))) (fx_cnd (fx_cnd (fx_cnd (fun _ _ _ _ _ _ _ _ => rfl) fx_no) (fx_cnd (fx_cnd (fun _ _ _ _ _ _ _ _ => rfl) fx_no) (fx_cnd (fun _ _ _ _ _ _ _ _ => rfl) fx_no))) (fx_cnd (fx_cnd (fun _ _ _ _ _ _ _ _ => rfl) fx_no) (fx_cnd (fx_cnd (fun _ _ _ _ _ _ _ _ => rfl) fx_no) (fx_cnd (fun _ _ _ _ _ _ _ _ => rfl) fx_no))))
theorem fk_167_12 (X : ez_X) (pc : Nat) : fx_ok X (ft_167_12 X pc) (ez_t167_12 pc) := by
  delta ft_167_12 ez_t167_12
  exact fx_cnd (fk_167_10 X pc) (fk_167_11 X pc)
theorem fk_167_13 (X : ez_X) (pc : Nat) : fx_ok X (ft_167_13 X pc) (ez_t167_13 pc) := by
  delta ft_167_13 ez_t167_13
  exact fx_cnd (fk_167_9 X pc) (fk_167_12 X pc)
theorem fk_167_14 (X : ez_X) (pc : Nat) : fx_ok X (ft_167_14 X pc) (ez_t167_14 pc) := by
  delta ft_167_14 ez_t167_14
  exact fx_cnd (fk_167_6 X pc) (fk_167_13 X pc)
theorem fk_167_15 (X : ez_X) (pc : Nat) : fx_ok X (ft_167_15 X pc) (ez_t167_15 pc) := by
  delta ft_167_15 ez_t167_15
  exact fx_cnd (fx_cnd (fx_cnd (fx_cnd (fun _ _ _ _ _ _ _ _ => rfl) fx_no) (fx_cnd (fun _ _ _ _ _ _ _ _ => rfl) fx_no)) (fx_cnd (fx_cnd (fun _ _ _ _ _ _ _ _ => rfl) fx_no) (fx_cnd (fx_cnd (fun _ _ _ _ _ _ _ _ => rfl) fx_no) (fx_cnd (fun _ _ _ _ _ _ _ _ => rfl) fx_no)))) (fx_cnd (fx_cnd (fx_cnd (fun _ _ _ _ _ _ _ _ => rfl) fx_no) (fx_cnd (fx_cnd (fun _ _ _ _ _ _ _ _ => rfl) fx_no) (fx_cnd (fun _ _ _ _ _ _ _ _ => rfl) fx_no))) (fx_cnd (fx_cnd (fun _ _ _ _ _ _ _ _ => rfl) fx_no) (fx_cnd (fx_cnd (fun _ _ _ _ _ _ _ _ => rfl) fx_no) (fx_cnd (fun _ _ _ _ _ _ _ _ => rfl) fx_no))))
theorem fk_167_16 (X : ez_X) (pc : Nat) : fx_ok X (ft_167_16 X pc) (ez_t167_16 pc) := by
  delta ft_167_16 ez_t167_16
  exact fx_cnd (fx_cnd (fx_cnd (fx_cnd (fun _ _ _ _ _ _ _ _ => rfl) fx_no) (fx_cnd (fun _ _ _ _ _ _ _ _ => rfl) fx_no)) (fx_cnd (fx_cnd (fun _ _ _ _ _ _ _ _ => rfl) fx_no) (fx_cnd (fx_cnd (fun _ _ _ _ _ _ _ _ => rfl) fx_no) (fx_cnd (fun _ _ _ _ _ _ _ _ => rfl) fx_no)))) (fx_cnd (fx_cnd (fx_cnd (fun _ _ _ _ _ _ _ _ => rfl) fx_no) (fx_cnd (fx_cnd (fun _ _ _ _ _ _ _ _ => rfl) fx_no) (fx_cnd (fun _ _ _ _ _ _ _ _ => rfl) fx_no))) (fx_cnd (fx_cnd (fun _ _ _ _ _ _ _ _ => rfl) fx_no) (fx_cnd (fx_cnd (fun _ _ _ _ _ _ _ _ => rfl) fx_no) (fx_cnd (fun _ _ _ _ _ _ _ _ => rfl) fx_no))))
theorem fk_167_17 (X : ez_X) (pc : Nat) : fx_ok X (ft_167_17 X pc) (ez_t167_17 pc) := by
  delta ft_167_17 ez_t167_17
  exact fx_cnd (fk_167_15 X pc) (fk_167_16 X pc)
theorem fk_167_18 (X : ez_X) (pc : Nat) : fx_ok X (ft_167_18 X pc) (ez_t167_18 pc) := by
  delta ft_167_18 ez_t167_18
  exact fx_cnd (fx_cnd (fx_cnd (fx_cnd (fun _ _ _ _ _ _ _ _ => rfl) fx_no) (fx_cnd (fun _ _ _ _ _ _ _ _ => rfl) fx_no)) (fx_cnd (fx_cnd (fun _ _ _ _ _ _ _ _ => rfl) fx_no) (fx_cnd (fx_cnd (fun _ _ _ _ _ _ _ _ => rfl) fx_no) (fx_cnd (fun _ _ _ _ _ _ _ _ => rfl) fx_no)))) (fx_cnd (fx_cnd (fx_cnd (fun _ _ _ _ _ _ _ _ => rfl) fx_no) (fx_cnd (fx_cnd (fun _ _ _ _ _ _ _ _ => rfl) fx_no) (fx_cnd (fun _ _ _ _ _ _ _ _ => rfl) fx_no))) (fx_cnd (fx_cnd (fun _ _ _ _ _ _ _ _ => rfl) fx_no) (fx_cnd (fx_cnd (fun _ _ _ _ _ _ _ _ => rfl) fx_no) (fx_cnd (fun _ _ _ _ _ _ _ _ => rfl) fx_no))))
theorem fk_167_19 (X : ez_X) (pc : Nat) : fx_ok X (ft_167_19 X pc) (ez_t167_19 pc) := by
  delta ft_167_19 ez_t167_19
  exact fx_cnd (fx_cnd (fx_cnd (fx_cnd (fun _ _ _ _ _ _ _ _ => rfl) fx_no) (fx_cnd (fun _ _ _ _ _ _ _ _ => rfl) fx_no)) (fx_cnd (fx_cnd (fun _ _ _ _ _ _ _ _ => rfl) fx_no) (fx_cnd (fx_cnd (fun _ _ _ _ _ _ _ _ => rfl) fx_no) (fx_cnd (fun _ _ _ _ _ _ _ _ => rfl) fx_no)))) (fx_cnd (fx_cnd (fx_cnd (fun _ _ _ _ _ _ _ _ => rfl) fx_no) (fx_cnd (fx_cnd (fun _ _ _ _ _ _ _ _ => rfl) fx_no) (fx_cnd (fun _ _ _ _ _ _ _ _ => rfl) fx_no))) (fx_cnd (fx_cnd (fun _ _ _ _ _ _ _ _ => rfl) fx_no) (fx_cnd (fx_cnd (fun _ _ _ _ _ _ _ _ => rfl) fx_no) (fx_cnd (fun _ _ _ _ _ _ _ _ => rfl) fx_no))))
theorem fk_167_20 (X : ez_X) (pc : Nat) : fx_ok X (ft_167_20 X pc) (ez_t167_20 pc) := by
  delta ft_167_20 ez_t167_20
  exact fx_cnd (fk_167_18 X pc) (fk_167_19 X pc)
theorem fk_167_21 (X : ez_X) (pc : Nat) : fx_ok X (ft_167_21 X pc) (ez_t167_21 pc) := by
  delta ft_167_21 ez_t167_21
  exact fx_cnd (fk_167_17 X pc) (fk_167_20 X pc)
theorem fk_167_22 (X : ez_X) (pc : Nat) : fx_ok X (ft_167_22 X pc) (ez_t167_22 pc) := by
  delta ft_167_22 ez_t167_22
  exact fx_cnd (fx_cnd (fx_cnd (fx_cnd (fun _ _ _ _ _ _ _ _ => rfl) fx_no) (fx_cnd (fun _ _ _ _ _ _ _ _ => rfl) fx_no)) (fx_cnd (fx_cnd (fun _ _ _ _ _ _ _ _ => rfl) fx_no) (fx_cnd (fx_cnd (fun _ _ _ _ _ _ _ _ => rfl) fx_no) (fx_cnd (fun _ _ _ _ _ _ _ _ => rfl) fx_no)))) (fx_cnd (fx_cnd (fx_cnd (fun _ _ _ _ _ _ _ _ => rfl) fx_no) (fx_cnd (fx_cnd (fun _ _ _ _ _ _ _ _ => rfl) fx_no) (fx_cnd (fun _ _ _ _ _ _ _ _ => rfl) fx_no))) (fx_cnd (fx_cnd (fun _ _ _ _ _ _ _ _ => rfl) fx_no) (fx_cnd (fx_cnd (fun _ _ _ _ _ _ _ _ => rfl) fx_no) (fx_cnd (fun _ _ _ _ _ _ _ _ => rfl) fx_no))))
theorem fk_167_23 (X : ez_X) (pc : Nat) : fx_ok X (ft_167_23 X pc) (ez_t167_23 pc) := by
  delta ft_167_23 ez_t167_23
  exact fx_cnd (fx_cnd (fx_cnd (fx_cnd (fun _ _ _ _ _ _ _ _ => rfl) fx_no) (fx_cnd (fun _ _ _ _ _ _ _ _ => rfl) fx_no)) (fx_cnd (fx_cnd (fun _ _ _ _ _ _ _ _ => rfl) fx_no) (fx_cnd (fx_cnd (fun _ _ _ _ _ _ _ _ => rfl) fx_no) (fx_cnd (fun _ _ _ _ _ _ _ _ => rfl) fx_no)))) (fx_cnd (fx_cnd (fx_cnd (fun _ _ _ _ _ _ _ _ => rfl) fx_no) (fx_cnd (fx_cnd (fun _ _ _ _ _ _ _ _ => rfl) fx_no) (fx_cnd (fun _ _ _ _ _ _ _ _ => rfl) fx_no))) (fx_cnd (fx_cnd (fun _ _ _ _ _ _ _ _ => rfl) fx_no) (fx_cnd (fx_cnd (fun _ _ _ _ _ _ _ _ => rfl) fx_no) (fx_cnd (fun _ _ _ _ _ _ _ _ => rfl) fx_no))))
theorem fk_167_24 (X : ez_X) (pc : Nat) : fx_ok X (ft_167_24 X pc) (ez_t167_24 pc) := by
  delta ft_167_24 ez_t167_24
  exact fx_cnd (fk_167_22 X pc) (fk_167_23 X pc)
theorem fk_167_25 (X : ez_X) (pc : Nat) : fx_ok X (ft_167_25 X pc) (ez_t167_25 pc) := by
  delta ft_167_25 ez_t167_25
  exact fx_cnd (fx_cnd (fx_cnd (fx_cnd (fun _ _ _ _ _ _ _ _ => rfl) fx_no) (fx_cnd (fun _ _ _ _ _ _ _ _ => rfl) fx_no)) (fx_cnd (fx_cnd (fun _ _ _ _ _ _ _ _ => rfl) fx_no) (fx_cnd (fx_cnd (fun _ _ _ _ _ _ _ _ => rfl) fx_no) (fx_cnd (fun _ _ _ _ _ _ _ _ => rfl) fx_no)))) (fx_cnd (fx_cnd (fx_cnd (fun _ _ _ _ _ _ _ _ => rfl) fx_no) (fx_cnd (fx_cnd (fun _ _ _ _ _ _ _ _ => rfl) fx_no) (fx_cnd (fun _ _ _ _ _ _ _ _ => rfl) fx_no))) (fx_cnd (fx_cnd (fun _ _ _ _ _ _ _ _ => rfl) fx_no) (fx_cnd (fx_cnd (fun _ _ _ _ _ _ _ _ => rfl) fx_no) (fx_cnd (fun _ _ _ _ _ _ _ _ => rfl) fx_no))))
theorem fk_167_26 (X : ez_X) (pc : Nat) : fx_ok X (ft_167_26 X pc) (ez_t167_26 pc) := by
  delta ft_167_26 ez_t167_26
  exact fx_cnd (fx_cnd (fx_cnd (fx_cnd (fun _ _ _ _ _ _ _ _ => rfl) fx_no) (fx_cnd (fx_cnd (fun _ _ _ _ _ _ _ _ => rfl) fx_no) (fx_cnd (fun _ _ _ _ _ _ _ _ => rfl) fx_no))) (fx_cnd (fx_cnd (fun _ _ _ _ _ _ _ _ => rfl) fx_no) (fx_cnd (fx_cnd (fun _ _ _ _ _ _ _ _ => rfl) fx_no) (fx_cnd (fun _ _ _ _ _ _ _ _ => rfl) fx_no)))) (fx_cnd (fx_cnd (fx_cnd (fun _ _ _ _ _ _ _ _ => rfl) fx_no) (fx_cnd (fx_cnd (fun _ _ _ _ _ _ _ _ => rfl) fx_no) (fx_cnd (fun _ _ _ _ _ _ _ _ => rfl) fx_no))) (fx_cnd (fx_cnd (fun _ _ _ _ _ _ _ _ => rfl) fx_no) (fx_cnd (fx_cnd (fun _ _ _ _ _ _ _ _ => rfl) fx_no) (fx_cnd (fun _ _ _ _ _ _ _ _ => rfl) fx_no))))
theorem fk_167_27 (X : ez_X) (pc : Nat) : fx_ok X (ft_167_27 X pc) (ez_t167_27 pc) := by
  delta ft_167_27 ez_t167_27
  exact fx_cnd (fk_167_25 X pc) (fk_167_26 X pc)
theorem fk_167_28 (X : ez_X) (pc : Nat) : fx_ok X (ft_167_28 X pc) (ez_t167_28 pc) := by
  delta ft_167_28 ez_t167_28
  exact fx_cnd (fk_167_24 X pc) (fk_167_27 X pc)
theorem fk_167_29 (X : ez_X) (pc : Nat) : fx_ok X (ft_167_29 X pc) (ez_t167_29 pc) := by
  delta ft_167_29 ez_t167_29
  exact fx_cnd (fk_167_21 X pc) (fk_167_28 X pc)
theorem fk_167 (X : ez_X) (pc : Nat) : fx_ok X (ft_167 X pc) (ez_t167 pc) := by
  delta ft_167 ez_t167
  exact fx_cnd (fk_167_14 X pc) (fk_167_29 X pc)
theorem fk_168_0 (X : ez_X) (pc : Nat) : fx_ok X (ft_168_0 X pc) (ez_t168_0 pc) := by
  delta ft_168_0 ez_t168_0
  exact fx_cnd (fx_cnd (fx_cnd (fun _ _ _ _ _ _ _ _ => rfl) fx_no) (fx_cnd (fx_cnd (fun _ _ _ _ _ _ _ _ => rfl) fx_no) (fx_cnd (fun _ _ _ _ _ _ _ _ => rfl) fx_no))) (fx_cnd (fx_cnd (fx_cnd (fun _ _ _ _ _ _ _ _ => rfl) fx_no) (fx_cnd (fun _ _ _ _ _ _ _ _ => rfl) fx_no)) (fx_cnd (fx_cnd (fun _ _ _ _ _ _ _ _ => rfl) fx_no) (fx_cnd (fun _ _ _ _ _ _ _ _ => rfl) fx_no)))
theorem fk_168_1 (X : ez_X) (pc : Nat) : fx_ok X (ft_168_1 X pc) (ez_t168_1 pc) := by
  delta ft_168_1 ez_t168_1
  exact fx_cnd (fx_cnd (fx_cnd (fun _ _ _ _ _ _ _ _ => rfl) fx_no) (fx_cnd (fx_cnd (fun _ _ _ _ _ _ _ _ => rfl) fx_no) (fx_cnd (fun _ _ _ _ _ _ _ _ => rfl) fx_no))) (fx_cnd (fx_cnd (fx_cnd (fun _ _ _ _ _ _ _ _ => rfl) fx_no) (fx_cnd (fun _ _ _ _ _ _ _ _ => rfl) fx_no)) (fx_cnd (fx_cnd (fun _ _ _ _ _ _ _ _ => rfl) fx_no) (fx_cnd (fun _ _ _ _ _ _ _ _ => rfl) fx_no)))
theorem fk_168 (X : ez_X) (pc : Nat) : fx_ok X (ft_168 X pc) (ez_t168 pc) := by
  delta ft_168 ez_t168
  exact fx_cnd (fk_168_0 X pc) (fk_168_1 X pc)
theorem fk_169_0 (X : ez_X) (pc : Nat) : fx_ok X (ft_169_0 X pc) (ez_t169_0 pc) := by
  delta ft_169_0 ez_t169_0
  exact fx_cnd (fx_cnd (fx_cnd (fun _ _ _ _ _ _ _ _ => rfl) fx_no) (fx_cnd (fx_cnd (fun _ _ _ _ _ _ _ _ => rfl) fx_no) (fx_cnd (fun _ _ _ _ _ _ _ _ => rfl) fx_no))) (fx_cnd (fx_cnd (fx_cnd (fun _ _ _ _ _ _ _ _ => rfl) fx_no) (fx_cnd (fun _ _ _ _ _ _ _ _ => rfl) fx_no)) (fx_cnd (fx_cnd (fun _ _ _ _ _ _ _ _ => rfl) fx_no) (fx_cnd (fun _ _ _ _ _ _ _ _ => rfl) fx_no)))
theorem fk_169_1 (X : ez_X) (pc : Nat) : fx_ok X (ft_169_1 X pc) (ez_t169_1 pc) := by
  delta ft_169_1 ez_t169_1
  exact fx_cnd (fx_cnd (fx_cnd (fun _ _ _ _ _ _ _ _ => rfl) fx_no) (fx_cnd (fx_cnd (fun _ _ _ _ _ _ _ _ => rfl) fx_no) (fx_cnd (fun _ _ _ _ _ _ _ _ => rfl) fx_no))) (fx_cnd (fx_cnd (fx_cnd (fun _ _ _ _ _ _ _ _ => rfl) fx_no) (fx_cnd (fun _ _ _ _ _ _ _ _ => rfl) fx_no)) (fx_cnd (fx_cnd (fun _ _ _ _ _ _ _ _ => rfl) fx_no) (fx_cnd (fun _ _ _ _ _ _ _ _ => rfl) fx_no)))
theorem fk_169_2 (X : ez_X) (pc : Nat) : fx_ok X (ft_169_2 X pc) (ez_t169_2 pc) := by
  delta ft_169_2 ez_t169_2
  exact fx_cnd (fk_169_0 X pc) (fk_169_1 X pc)
theorem fk_169_3 (X : ez_X) (pc : Nat) : fx_ok X (ft_169_3 X pc) (ez_t169_3 pc) := by
  delta ft_169_3 ez_t169_3
  exact fx_cnd (fx_cnd (fx_cnd (fun _ _ _ _ _ _ _ _ => rfl) fx_no) (fx_cnd (fx_cnd (fun _ _ _ _ _ _ _ _ => rfl) fx_no) (fx_cnd (fun _ _ _ _ _ _ _ _ => rfl) fx_no))) (fx_cnd (fx_cnd (fx_cnd (fun _ _ _ _ _ _ _ _ => rfl) fx_no) (fx_cnd (fun _ _ _ _ _ _ _ _ => rfl) fx_no)) (fx_cnd (fx_cnd (fun _ _ _ _ _ _ _ _ => rfl) fx_no) (fx_cnd (fun _ _ _ _ _ _ _ _ => rfl) fx_no)))
theorem fk_169_4 (X : ez_X) (pc : Nat) : fx_ok X (ft_169_4 X pc) (ez_t169_4 pc) := by
  delta ft_169_4 ez_t169_4
  exact fx_cnd (fx_cnd (fx_cnd (fx_cnd (fun _ _ _ _ _ _ _ _ => rfl) fx_no) (fx_cnd (fun _ _ _ _ _ _ _ _ => rfl) fx_no)) (fx_cnd (fx_cnd (fun _ _ _ _ _ _ _ _ => rfl) fx_no) (fx_cnd (fun _ _ _ _ _ _ _ _ => rfl) fx_no))) (fx_cnd (fx_cnd (fx_cnd (fun _ _ _ _ _ _ _ _ => rfl) fx_no) (fx_cnd (fun _ _ _ _ _ _ _ _ => rfl) fx_no)) (fx_cnd (fx_cnd (fun _ _ _ _ _ _ _ _ => rfl) fx_no) (fx_cnd (fun _ _ _ _ _ _ _ _ => rfl) fx_no)))
theorem fk_169_5 (X : ez_X) (pc : Nat) : fx_ok X (ft_169_5 X pc) (ez_t169_5 pc) := by
  delta ft_169_5 ez_t169_5
  exact fx_cnd (fk_169_3 X pc) (fk_169_4 X pc)
theorem fk_169_6 (X : ez_X) (pc : Nat) : fx_ok X (ft_169_6 X pc) (ez_t169_6 pc) := by
  delta ft_169_6 ez_t169_6
  exact fx_cnd (fk_169_2 X pc) (fk_169_5 X pc)
theorem fk_169_7 (X : ez_X) (pc : Nat) : fx_ok X (ft_169_7 X pc) (ez_t169_7 pc) := by
  delta ft_169_7 ez_t169_7
  exact fx_cnd (fx_cnd (fx_cnd (fun _ _ _ _ _ _ _ _ => rfl) fx_no) (fx_cnd (fx_cnd (fun _ _ _ _ _ _ _ _ => rfl) fx_no) (fx_cnd (fun _ _ _ _ _ _ _ _ => rfl) fx_no))) (fx_cnd (fx_cnd (fx_cnd (fun _ _ _ _ _ _ _ _ => rfl) fx_no) (fx_cnd (fun _ _ _ _ _ _ _ _ => rfl) fx_no)) (fx_cnd (fx_cnd (fun _ _ _ _ _ _ _ _ => rfl) fx_no) (fx_cnd (fun _ _ _ _ _ _ _ _ => rfl) fx_no)))
theorem fk_169_8 (X : ez_X) (pc : Nat) : fx_ok X (ft_169_8 X pc) (ez_t169_8 pc) := by
  delta ft_169_8 ez_t169_8
  exact fx_cnd (fx_cnd (fx_cnd (fun _ _ _ _ _ _ _ _ => rfl) fx_no) (fx_cnd (fx_cnd (fun _ _ _ _ _ _ _ _ => rfl) fx_no) (fx_cnd (fun _ _ _ _ _ _ _ _ => rfl) fx_no))) (fx_cnd (fx_cnd (fx_cnd (fun _ _ _ _ _ _ _ _ => rfl) fx_no) (fx_cnd (fun _ _ _ _ _ _ _ _ => rfl) fx_no)) (fx_cnd (fx_cnd (fun _ _ _ _ _ _ _ _ => rfl) fx_no) (fx_cnd (fun _ _ _ _ _ _ _ _ => rfl) fx_no)))
theorem fk_169_9 (X : ez_X) (pc : Nat) : fx_ok X (ft_169_9 X pc) (ez_t169_9 pc) := by
  delta ft_169_9 ez_t169_9
  exact fx_cnd (fk_169_7 X pc) (fk_169_8 X pc)
theorem fk_169_10 (X : ez_X) (pc : Nat) : fx_ok X (ft_169_10 X pc) (ez_t169_10 pc) := by
  delta ft_169_10 ez_t169_10
  exact fx_cnd (fx_cnd (fx_cnd (fun _ _ _ _ _ _ _ _ => rfl) fx_no) (fx_cnd (fx_cnd (fun _ _ _ _ _ _ _ _ => rfl) fx_no) (fx_cnd (fun _ _ _ _ _ _ _ _ => rfl) fx_no))) (fx_cnd (fx_cnd (fx_cnd (fun _ _ _ _ _ _ _ _ => rfl) fx_no) (fx_cnd (fun _ _ _ _ _ _ _ _ => rfl) fx_no)) (fx_cnd (fx_cnd (fun _ _ _ _ _ _ _ _ => rfl) fx_no) (fx_cnd (fun _ _ _ _ _ _ _ _ => rfl) fx_no)))
theorem fk_169_11 (X : ez_X) (pc : Nat) : fx_ok X (ft_169_11 X pc) (ez_t169_11 pc) := by
  delta ft_169_11 ez_t169_11
  exact fx_cnd (fx_cnd (fx_cnd (fx_cnd (fun _ _ _ _ _ _ _ _ => rfl) fx_no) (fx_cnd (fun _ _ _ _ _ _ _ _ => rfl) fx_no)) (fx_cnd (fx_cnd (fun _ _ _ _ _ _ _ _ => rfl) fx_no) (fx_cnd (fun _ _ _ _ _ _ _ _ => rfl) fx_no))) (fx_cnd (fx_cnd (fx_cnd (fun _ _ _ _ _ _ _ _ => rfl) fx_no) (fx_cnd (fun _ _ _ _ _ _ _ _ => rfl) fx_no)) (fx_cnd (fx_cnd (fun _ _ _ _ _ _ _ _ => rfl) fx_no) (fx_cnd (fun _ _ _ _ _ _ _ _ => rfl) fx_no)))
theorem fk_169_12 (X : ez_X) (pc : Nat) : fx_ok X (ft_169_12 X pc) (ez_t169_12 pc) := by
  delta ft_169_12 ez_t169_12
  exact fx_cnd (fk_169_10 X pc) (fk_169_11 X pc)
theorem fk_169_13 (X : ez_X) (pc : Nat) : fx_ok X (ft_169_13 X pc) (ez_t169_13 pc) := by
  delta ft_169_13 ez_t169_13
  exact fx_cnd (fk_169_9 X pc) (fk_169_12 X pc)
theorem fk_169 (X : ez_X) (pc : Nat) : fx_ok X (ft_169 X pc) (ez_t169 pc) := by
  delta ft_169 ez_t169
  exact fx_cnd (fk_169_6 X pc) (fk_169_13 X pc)
theorem fk_170_0 (X : ez_X) (pc : Nat) : fx_ok X (ft_170_0 X pc) (ez_t170_0 pc) := by
  delta ft_170_0 ez_t170_0
  exact fx_cnd (fx_cnd (fx_cnd (fun _ _ _ _ _ _ _ _ => rfl) fx_no) (fx_cnd (fx_cnd (fun _ _ _ _ _ _ _ _ => rfl) fx_no) (fx_cnd (fun _ _ _ _ _ _ _ _ => rfl) fx_no))) (fx_cnd (fx_cnd (fun _ _ _ _ _ _ _ _ => rfl) fx_no) (fx_cnd (fx_cnd (fun _ _ _ _ _ _ _ _ => rfl) fx_no) (fx_cnd (fun _ _ _ _ _ _ _ _ => rfl) fx_no)))
theorem fk_170_1 (X : ez_X) (pc : Nat) : fx_ok X (ft_170_1 X pc) (ez_t170_1 pc) := by
  delta ft_170_1 ez_t170_1
  exact fx_cnd (fx_cnd (fx_cnd (fun _ _ _ _ _ _ _ _ => rfl) fx_no) (fx_cnd (fx_cnd (fun _ _ _ _ _ _ _ _ => rfl) fx_no) (fx_cnd (fun _ _ _ _ _ _ _ _ => rfl) fx_no))) (fx_cnd (fx_cnd (fx_cnd (fun _ _ _ _ _ _ _ _ => rfl) fx_no) (fx_cnd (fun _ _ _ _ _ _ _ _ => rfl) fx_no)) (fx_cnd (fx_cnd (fun _ _ _ _ _ _ _ _ => rfl) fx_no) (fx_cnd (fun _ _ _ _ _ _ _ _ => rfl) fx_no)))
theorem fk_170_2 (X : ez_X) (pc : Nat) : fx_ok X (ft_170_2 X pc) (ez_t170_2 pc) := by
  delta ft_170_2 ez_t170_2
  exact fx_cnd (fk_170_0 X pc) (fk_170_1 X pc)
theorem fk_170_3 (X : ez_X) (pc : Nat) : fx_ok X (ft_170_3 X pc) (ez_t170_3 pc) := by
  delta ft_170_3 ez_t170_3
  exact fx_cnd (fx_cnd (fx_cnd (fun _ _ _ _ _ _ _ _ => rfl) fx_no) (fx_cnd (fx_cnd (fun _ _ _ _ _ _ _ _ => rfl) fx_no) (fx_cnd (fun _ _ _ _ _ _ _ _ => rfl) fx_no))) (fx_cnd (fx_cnd (fun _ _ _ _ _ _ _ _ => rfl) fx_no) (fx_cnd (fx_cnd (fun _ _ _ _ _ _ _ _ => rfl) fx_no) (fx_cnd (fun _ _ _ _ _ _ _ _ => rfl) fx_no)))
theorem fk_170_4 (X : ez_X) (pc : Nat) : fx_ok X (ft_170_4 X pc) (ez_t170_4 pc) := by
  delta ft_170_4 ez_t170_4
  exact fx_cnd (fx_cnd (fx_cnd (fun _ _ _ _ _ _ _ _ => rfl) fx_no) (fx_cnd (fx_cnd (fun _ _ _ _ _ _ _ _ => rfl) fx_no) (fx_cnd (fun _ _ _ _ _ _ _ _ => rfl) fx_no))) (fx_cnd (fx_cnd (fx_cnd (fun _ _ _ _ _ _ _ _ => rfl) fx_no) (fx_cnd (fun _ _ _ _ _ _ _ _ => rfl) fx_no)) (fx_cnd (fx_cnd (fun _ _ _ _ _ _ _ _ => rfl) fx_no) (fx_cnd (fun _ _ _ _ _ _ _ _ => rfl) fx_no)))
theorem fk_170_5 (X : ez_X) (pc : Nat) : fx_ok X (ft_170_5 X pc) (ez_t170_5 pc) := by
  delta ft_170_5 ez_t170_5
  exact fx_cnd (fk_170_3 X pc) (fk_170_4 X pc)
theorem fk_170_6 (X : ez_X) (pc : Nat) : fx_ok X (ft_170_6 X pc) (ez_t170_6 pc) := by
  delta ft_170_6 ez_t170_6
  exact fx_cnd (fk_170_2 X pc) (fk_170_5 X pc)
theorem fk_170_7 (X : ez_X) (pc : Nat) : fx_ok X (ft_170_7 X pc) (ez_t170_7 pc) := by
  delta ft_170_7 ez_t170_7
  exact fx_cnd (fx_cnd (fx_cnd (fun _ _ _ _ _ _ _ _ => rfl) fx_no) (fx_cnd (fx_cnd (fun _ _ _ _ _ _ _ _ => rfl) fx_no) (fx_cnd (fun _ _ _ _ _ _ _ _ => rfl) fx_no))) (fx_cnd (fx_cnd (fun _ _ _ _ _ _ _ _ => rfl) fx_no) (fx_cnd (fx_cnd (fun _ _ _ _ _ _ _ _ => rfl) fx_no) (fx_cnd (fun _ _ _ _ _ _ _ _ => rfl) fx_no)))
theorem fk_170_8 (X : ez_X) (pc : Nat) : fx_ok X (ft_170_8 X pc) (ez_t170_8 pc) := by
  delta ft_170_8 ez_t170_8
  exact fx_cnd (fx_cnd (fx_cnd (fun _ _ _ _ _ _ _ _ => rfl) fx_no) (fx_cnd (fx_cnd (fun _ _ _ _ _ _ _ _ => rfl) fx_no) (fx_cnd (fun _ _ _ _ _ _ _ _ => rfl) fx_no))) (fx_cnd (fx_cnd (fx_cnd (fun _ _ _ _ _ _ _ _ => rfl) fx_no) (fx_cnd (fun _ _ _ _ _ _ _ _ => rfl) fx_no)) (fx_cnd (fx_cnd (fun _ _ _ _ _ _ _ _ => rfl) fx_no) (fx_cnd (fun _ _ _ _ _ _ _ _ => rfl) fx_no)))
theorem fk_170_9 (X : ez_X) (pc : Nat) : fx_ok X (ft_170_9 X pc) (ez_t170_9 pc) := by
  delta ft_170_9 ez_t170_9
  exact fx_cnd (fk_170_7 X pc) (fk_170_8 X pc)
theorem fk_170_10 (X : ez_X) (pc : Nat) : fx_ok X (ft_170_10 X pc) (ez_t170_10 pc) := by
  delta ft_170_10 ez_t170_10
  exact fx_cnd (fx_cnd (fx_cnd (fun _ _ _ _ _ _ _ _ => rfl) fx_no) (fx_cnd (fx_cnd (fun _ _ _ _ _ _ _ _ => rfl) fx_no) (fx_cnd (fun _ _ _ _ _ _ _ _ => rfl) fx_no))) (fx_cnd (fx_cnd (fx_cnd (fun _ _ _ _ _ _ _ _ => rfl) fx_no) (fx_cnd (fun _ _ _ _ _ _ _ _ => rfl) fx_no)) (fx_cnd (fx_cnd (fun _ _ _ _ _ _ _ _ => rfl) fx_no) (fx_cnd (fun _ _ _ _ _ _ _ _ => rfl) fx_no)))
theorem fk_170_11 (X : ez_X) (pc : Nat) : fx_ok X (ft_170_11 X pc) (ez_t170_11 pc) := by
  delta ft_170_11 ez_t170_11
  exact fx_cnd (fx_cnd (fx_cnd (fun _ _ _ _ _ _ _ _ => rfl) fx_no) (fx_cnd (fx_cnd (fun _ _ _ _ _ _ _ _ => rfl) fx_no) (fx_cnd (fun _ _ _ _ _ _ _ _ => rfl) fx_no))) (fx_cnd (fx_cnd (fx_cnd (fun _ _ _ _ _ _ _ _ => rfl) fx_no) (fx_cnd (fun _ _ _ _ _ _ _ _ => rfl) fx_no)) (fx_cnd (fx_cnd (fun _ _ _ _ _ _ _ _ => rfl) fx_no) (fx_cnd (fun _ _ _ _ _ _ _ _ => rfl) fx_no)))
theorem fk_170_12 (X : ez_X) (pc : Nat) : fx_ok X (ft_170_12 X pc) (ez_t170_12 pc) := by
  delta ft_170_12 ez_t170_12
  exact fx_cnd (fk_170_10 X pc) (fk_170_11 X pc)
theorem fk_170_13 (X : ez_X) (pc : Nat) : fx_ok X (ft_170_13 X pc) (ez_t170_13 pc) := by
  delta ft_170_13 ez_t170_13
  exact fx_cnd (fk_170_9 X pc) (fk_170_12 X pc)
theorem fk_170_14 (X : ez_X) (pc : Nat) : fx_ok X (ft_170_14 X pc) (ez_t170_14 pc) := by
  delta ft_170_14 ez_t170_14
  exact fx_cnd (fk_170_6 X pc) (fk_170_13 X pc)
theorem fk_170_15 (X : ez_X) (pc : Nat) : fx_ok X (ft_170_15 X pc) (ez_t170_15 pc) := by
  delta ft_170_15 ez_t170_15
  exact fx_cnd (fx_cnd (fx_cnd (fun _ _ _ _ _ _ _ _ => rfl) fx_no) (fx_cnd (fx_cnd (fun _ _ _ _ _ _ _ _ => rfl) fx_no) (fx_cnd (fun _ _ _ _ _ _ _ _ => rfl) fx_no))) (fx_cnd (fx_cnd (fun _ _ _ _ _ _ _ _ => rfl) fx_no) (fx_cnd (fx_cnd (fun _ _ _ _ _ _ _ _ => rfl) fx_no) (fx_cnd (fun _ _ _ _ _ _ _ _ => rfl) fx_no)))
theorem fk_170_16 (X : ez_X) (pc : Nat) : fx_ok X (ft_170_16 X pc) (ez_t170_16 pc) := by
  delta ft_170_16 ez_t170_16
  exact fx_cnd (fx_cnd (fx_cnd (fun _ _ _ _ _ _ _ _ => rfl) fx_no) (fx_cnd (fx_cnd (fun _ _ _ _ _ _ _ _ => rfl) fx_no) (fx_cnd (fun _ _ _ _ _ _ _ _ => rfl) fx_no))) (fx_cnd (fx_cnd (fx_cnd (fun _ _ _ _ _ _ _ _ => rfl) fx_no) (fx_cnd (fun _ _ _ _ _ _ _ _ => rfl) fx_no)) (fx_cnd (fx_cnd (fun _ _ _ _ _ _ _ _ => rfl) fx_no) (fx_cnd (fun _ _ _ _ _ _ _ _ => rfl) fx_no)))
theorem fk_170_17 (X : ez_X) (pc : Nat) : fx_ok X (ft_170_17 X pc) (ez_t170_17 pc) := by
  delta ft_170_17 ez_t170_17
  exact fx_cnd (fk_170_15 X pc) (fk_170_16 X pc)
theorem fk_170_18 (X : ez_X) (pc : Nat) : fx_ok X (ft_170_18 X pc) (ez_t170_18 pc) := by
  delta ft_170_18 ez_t170_18
  exact fx_cnd (fx_cnd (fx_cnd (fun _ _ _ _ _ _ _ _ => rfl) fx_no) (fx_cnd (fx_cnd (fun _ _ _ _ _ _ _ _ => rfl) fx_no) (fx_cnd (fun _ _ _ _ _ _ _ _ => rfl) fx_no))) (fx_cnd (fx_cnd (fun _ _ _ _ _ _ _ _ => rfl) fx_no) (fx_cnd (fx_cnd (fun _ _ _ _ _ _ _ _ => rfl) fx_no) (fx_cnd (fun _ _ _ _ _ _ _ _ => rfl) fx_no)))
theorem fk_170_19 (X : ez_X) (pc : Nat) : fx_ok X (ft_170_19 X pc) (ez_t170_19 pc) := by
  delta ft_170_19 ez_t170_19
  exact fx_cnd (fx_cnd (fx_cnd (fun _ _ _ _ _ _ _ _ => rfl) fx_no) (fx_cnd (fx_cnd (fun _ _ _ _ _ _ _ _ => rfl) fx_no) (fx_cnd (fun _ _ _ _ _ _ _ _ => rfl) fx_no))) (fx_cnd (fx_cnd (fx_cnd (fun _ _ _ _ _ _ _ _ => rfl) fx_no) (fx_cnd (fun _ _ _ _ _ _ _ _ => rfl) fx_no)) (fx_cnd (fx_cnd (fun _ _ _ _ _ _ _ _ => rfl) fx_no) (fx_cnd (fun _ _ _ _ _ _ _ _ => rfl) fx_no)))
theorem fk_170_20 (X : ez_X) (pc : Nat) : fx_ok X (ft_170_20 X pc) (ez_t170_20 pc) := by
  delta ft_170_20 ez_t170_20
  exact fx_cnd (fk_170_18 X pc) (fk_170_19 X pc)
theorem fk_170_21 (X : ez_X) (pc : Nat) : fx_ok X (ft_170_21 X pc) (ez_t170_21 pc) := by
  delta ft_170_21 ez_t170_21
  exact fx_cnd (fk_170_17 X pc) (fk_170_20 X pc)
theorem fk_170_22 (X : ez_X) (pc : Nat) : fx_ok X (ft_170_22 X pc) (ez_t170_22 pc) := by
  delta ft_170_22 ez_t170_22
  exact fx_cnd (fx_cnd (fx_cnd (fun _ _ _ _ _ _ _ _ => rfl) fx_no) (fx_cnd (fx_cnd (fun _ _ _ _ _ _ _ _ => rfl) fx_no) (fx_cnd (fun _ _ _ _ _ _ _ _ => rfl) fx_no))) (fx_cnd (fx_cnd (fun _ _ _ _ _ _ _ _ => rfl) fx_no) (fx_cnd (fx_cnd (fun _ _ _ _ _ _ _ _ => rfl) fx_no) (fx_cnd (fun _ _ _ _ _ _ _ _ => rfl) fx_no)))
theorem fk_170_23 (X : ez_X) (pc : Nat) : fx_ok X (ft_170_23 X pc) (ez_t170_23 pc) := by
  delta ft_170_23 ez_t170_23
  exact fx_cnd (fx_cnd (fx_cnd (fun _ _ _ _ _ _ _ _ => rfl) fx_no) (fx_cnd (fx_cnd (fun _ _ _ _ _ _ _ _ => rfl) fx_no) (fx_cnd (fun _ _ _ _ _ _ _ _ => rfl) fx_no))) (fx_cnd (fx_cnd (fx_cnd (fun _ _ _ _ _ _ _ _ => rfl) fx_no) (fx_cnd (fun _ _ _ _ _ _ _ _ => rfl) fx_no)) (fx_cnd (fx_cnd (fun _ _ _ _ _ _ _ _ => rfl) fx_no) (fx_cnd (fun _ _ _ _ _ _ _ _ => rfl) fx_no)))
theorem fk_170_24 (X : ez_X) (pc : Nat) : fx_ok X (ft_170_24 X pc) (ez_t170_24 pc) := by
  delta ft_170_24 ez_t170_24
  exact fx_cnd (fk_170_22 X pc) (fk_170_23 X pc)
theorem fk_170_25 (X : ez_X) (pc : Nat) : fx_ok X (ft_170_25 X pc) (ez_t170_25 pc) := by
  delta ft_170_25 ez_t170_25
  exact fx_cnd (fx_cnd (fx_cnd (fun _ _ _ _ _ _ _ _ => rfl) fx_no) (fx_cnd (fx_cnd (fun _ _ _ _ _ _ _ _ => rfl) fx_no) (fx_cnd (fun _ _ _ _ _ _ _ _ => rfl) fx_no))) (fx_cnd (fx_cnd (fx_cnd (fun _ _ _ _ _ _ _ _ => rfl) fx_no) (fx_cnd (fun _ _ _ _ _ _ _ _ => rfl) fx_no)) (fx_cnd (fx_cnd (fun _ _ _ _ _ _ _ _ => rfl) fx_no) (fx_cnd (fun _ _ _ _ _ _ _ _ => rfl) fx_no)))
theorem fk_170_26 (X : ez_X) (pc : Nat) : fx_ok X (ft_170_26 X pc) (ez_t170_26 pc) := by
  delta ft_170_26 ez_t170_26
  exact fx_cnd (fx_cnd (fx_cnd (fun _ _ _ _ _ _ _ _ => rfl) fx_no) (fx_cnd (fx_cnd (fun _ _ _ _ _ _ _ _ => rfl) fx_no) (fx_cnd (fun _ _ _ _ _ _ _ _ => rfl) fx_no))) (fx_cnd (fx_cnd (fx_cnd (fun _ _ _ _ _ _ _ _ => rfl) fx_no) (fx_cnd (fun _ _ _ _ _ _ _ _ => rfl) fx_no)) (fx_cnd (fx_cnd (fun _ _ _ _ _ _ _ _ => rfl) fx_no) (fx_cnd (fun _ _ _ _ _ _ _ _ => rfl) fx_no)))
theorem fk_170_27 (X : ez_X) (pc : Nat) : fx_ok X (ft_170_27 X pc) (ez_t170_27 pc) := by
  delta ft_170_27 ez_t170_27
  exact fx_cnd (fk_170_25 X pc) (fk_170_26 X pc)
theorem fk_170_28 (X : ez_X) (pc : Nat) : fx_ok X (ft_170_28 X pc) (ez_t170_28 pc) := by
  delta ft_170_28 ez_t170_28
  exact fx_cnd (fk_170_24 X pc) (fk_170_27 X pc)
theorem fk_170_29 (X : ez_X) (pc : Nat) : fx_ok X (ft_170_29 X pc) (ez_t170_29 pc) := by
  delta ft_170_29 ez_t170_29
  exact fx_cnd (fk_170_21 X pc) (fk_170_28 X pc)
theorem fk_170 (X : ez_X) (pc : Nat) : fx_ok X (ft_170 X pc) (ez_t170 pc) := by
  delta ft_170 ez_t170
  exact fx_cnd (fk_170_14 X pc) (fk_170_29 X pc)
theorem fk_171_0 (X : ez_X) (pc : Nat) : fx_ok X (ft_171_0 X pc) (ez_t171_0 pc) := by
  delta ft_171_0 ez_t171_0
  exact fx_cnd (fx_cnd (fx_cnd (fx_cnd (fun _ _ _ _ _ _ _ _ => rfl) fx_no) (fx_cnd (fun _ _ _ _ _ _ _ _ => rfl) fx_no)) (fx_cnd (fx_cnd (fun _ _ _ _ _ _ _ _ => rfl) fx_no) (fx_cnd (fx_cnd (fun _ _ _ _ _ _ _ _ => rfl) fx_no) (fx_cnd (fun _ _ _ _ _ _ _ _ => rfl) fx_no)))) (fx_cnd (fx_cnd (fx_cnd (fun _ _ _ _ _ _ _ _ => rfl) fx_no) (fx_cnd (fun _ _ _ _ _ _ _ _ => rfl) fx_no)) (fx_cnd (fx_cnd (fun _ _ _ _ _ _ _ _ => rfl) fx_no) (fx_cnd (fx_cnd (fun _ _ _ _ _ _ _ _ => rfl) fx_no) (fx_cnd (fun _ _ _ _ _ _ _ _ => rfl) fx_no))))
theorem fk_171_1 (X : ez_X) (pc : Nat) : fx_ok X (ft_171_1 X pc) (ez_t171_1 pc) := by
  delta ft_171_1 ez_t171_1
  exact fx_cnd (fx_cnd (fx_cnd (fx_cnd (fun _ _ _ _ _ _ _ _ => rfl) fx_no) (fx_cnd (fun _ _ _ _ _ _ _ _ => rfl) fx_no)) (fx_cnd (fx_cnd (fun _ _ _ _ _ _ _ _ => rfl) fx_no) (fx_cnd (fx_cnd (fun _ _ _ _ _ _ _ _ => rfl) fx_no) (fx_cnd (fun _ _ _ _ _ _ _ _ => rfl) fx_no)))) (fx_cnd (fx_cnd (fx_cnd (fun _ _ _ _ _ _ _ _ => rfl) fx_no) (fx_cnd (fx_cnd (fun _ _ _ _ _ _ _ _ => rfl) fx_no) (fx_cnd (fun _ _ _ _ _ _ _ _ => rfl) fx_no))) (fx_cnd (fx_cnd (fun _ _ _ _ _ _ _ _ => rfl) fx_no) (fx_cnd (fx_cnd (fun _ _ _ _ _ _ _ _ => rfl) fx_no) (fx_cnd (fun _ _ _ _ _ _ _ _ => rfl) fx_no))))
theorem fk_171 (X : ez_X) (pc : Nat) : fx_ok X (ft_171 X pc) (ez_t171 pc) := by
  delta ft_171 ez_t171
  exact fx_cnd (fk_171_0 X pc) (fk_171_1 X pc)
theorem fk_172 (X : ez_X) (pc : Nat) : fx_ok X (ft_172 X pc) (ez_t172 pc) := by
  delta ft_172 ez_t172
  exact fx_cnd (fx_cnd (fx_cnd (fx_cnd (fun _ _ _ _ _ _ _ _ => rfl) fx_no) (fx_cnd (fun _ _ _ _ _ _ _ _ => rfl) fx_no)) (fx_cnd (fx_cnd (fun _ _ _ _ _ _ _ _ => rfl) fx_no) (fx_cnd (fun _ _ _ _ _ _ _ _ => rfl) fx_no))) (fx_cnd (fx_cnd (fx_cnd (fun _ _ _ _ _ _ _ _ => rfl) fx_no) (fx_cnd (fun _ _ _ _ _ _ _ _ => rfl) fx_no)) (fx_cnd (fx_cnd (fun _ _ _ _ _ _ _ _ => rfl) fx_no) (fx_cnd (fun _ _ _ _ _ _ _ _ => rfl) fx_no)))
theorem fk_173_0 (X : ez_X) (pc : Nat) : fx_ok X (ft_173_0 X pc) (ez_t173_0 pc) := by
  delta ft_173_0 ez_t173_0
  exact fx_cnd (fx_cnd (fx_cnd (fun _ _ _ _ _ _ _ _ => rfl) fx_no) (fx_cnd (fx_cnd (fun _ _ _ _ _ _ _ _ => rfl) fx_no) (fx_cnd (fun _ _ _ _ _ _ _ _ => rfl) fx_no))) (fx_cnd (fx_cnd (fx_cnd (fun _ _ _ _ _ _ _ _ => rfl) fx_no) (fx_cnd (fun _ _ _ _ _ _ _ _ => rfl) fx_no)) (fx_cnd (fx_cnd (fun _ _ _ _ _ _ _ _ => rfl) fx_no) (fx_cnd (fun _ _ _ _ _ _ _ _ => rfl) fx_no)))
theorem fk_173_1 (X : ez_X) (pc : Nat) : fx_ok X (ft_173_1 X pc) (ez_t173_1 pc) := by
  delta ft_173_1 ez_t173_1
  exact fx_cnd (fx_cnd (fx_cnd (fx_cnd (fun _ _ _ _ _ _ _ _ => rfl) fx_no) (fx_cnd (fun _ _ _ _ _ _ _ _ => rfl) fx_no)) (fx_cnd (fx_cnd (fun _ _ _ _ _ _ _ _ => rfl) fx_no) (fx_cnd (fun _ _ _ _ _ _ _ _ => rfl) fx_no))) (fx_cnd (fx_cnd (fx_cnd (fun _ _ _ _ _ _ _ _ => rfl) fx_no) (fx_cnd (fun _ _ _ _ _ _ _ _ => rfl) fx_no)) (fx_cnd (fx_cnd (fun _ _ _ _ _ _ _ _ => rfl) fx_no) (fx_cnd (fun _ _ _ _ _ _ _ _ => rfl) fx_no)))
theorem fk_173_2 (X : ez_X) (pc : Nat) : fx_ok X (ft_173_2 X pc) (ez_t173_2 pc) := by
  delta ft_173_2 ez_t173_2
  exact fx_cnd (fk_173_0 X pc) (fk_173_1 X pc)
theorem fk_173_3 (X : ez_X) (pc : Nat) : fx_ok X (ft_173_3 X pc) (ez_t173_3 pc) := by
  delta ft_173_3 ez_t173_3
  exact fx_cnd (fx_cnd (fx_cnd (fun _ _ _ _ _ _ _ _ => rfl) fx_no) (fx_cnd (fx_cnd (fun _ _ _ _ _ _ _ _ => rfl) fx_no) (fx_cnd (fun _ _ _ _ _ _ _ _ => rfl) fx_no))) (fx_cnd (fx_cnd (fx_cnd (fun _ _ _ _ _ _ _ _ => rfl) fx_no) (fx_cnd (fun _ _ _ _ _ _ _ _ => rfl) fx_no)) (fx_cnd (fx_cnd (fun _ _ _ _ _ _ _ _ => rfl) fx_no) (fx_cnd (fun _ _ _ _ _ _ _ _ => rfl) fx_no)))
theorem fk_173_4 (X : ez_X) (pc : Nat) : fx_ok X (ft_173_4 X pc) (ez_t173_4 pc) := by
  delta ft_173_4 ez_t173_4
  exact fx_cnd (fx_cnd (fx_cnd (fx_cnd (fun _ _ _ _ _ _ _ _ => rfl) fx_no) (fx_cnd (fun _ _ _ _ _ _ _ _ => rfl) fx_no)) (fx_cnd (fx_cnd (fun _ _ _ _ _ _ _ _ => rfl) fx_no) (fx_cnd (fun _ _ _ _ _ _ _ _ => rfl) fx_no))) (fx_cnd (fx_cnd (fx_cnd (fun _ _ _ _ _ _ _ _ => rfl) fx_no) (fx_cnd (fun _ _ _ _ _ _ _ _ => rfl) fx_no)) (fx_cnd (fx_cnd (fun _ _ _ _ _ _ _ _ => rfl) fx_no) (fx_cnd (fun _ _ _ _ _ _ _ _ => rfl) fx_no)))
theorem fk_173_5 (X : ez_X) (pc : Nat) : fx_ok X (ft_173_5 X pc) (ez_t173_5 pc) := by
  delta ft_173_5 ez_t173_5
  exact fx_cnd (fk_173_3 X pc) (fk_173_4 X pc)
theorem fk_173 (X : ez_X) (pc : Nat) : fx_ok X (ft_173 X pc) (ez_t173 pc) := by
  delta ft_173 ez_t173
  exact fx_cnd (fk_173_2 X pc) (fk_173_5 X pc)
theorem fk_174_0 (X : ez_X) (pc : Nat) : fx_ok X (ft_174_0 X pc) (ez_t174_0 pc) := by
  delta ft_174_0 ez_t174_0
  exact fx_cnd (fx_cnd (fx_cnd (fun _ _ _ _ _ _ _ _ => rfl) fx_no) (fx_cnd (fx_cnd (fun _ _ _ _ _ _ _ _ => rfl) fx_no) (fx_cnd (fun _ _ _ _ _ _ _ _ => rfl) fx_no))) (fx_cnd (fx_cnd (fx_cnd (fun _ _ _ _ _ _ _ _ => rfl) fx_no) (fx_cnd (fun _ _ _ _ _ _ _ _ => rfl) fx_no)) (fx_cnd (fx_cnd (fun _ _ _ _ _ _ _ _ => rfl) fx_no) (fx_cnd (fun _ _ _ _ _ _ _ _ => rfl) fx_no)))
theorem fk_174_1 (X : ez_X) (pc : Nat) : fx_ok X (ft_174_1 X pc) (ez_t174_1 pc) := by
  delta ft_174_1 ez_t174_1
  exact fx_cnd (fx_cnd (fx_cnd (fx_cnd (fun _ _ _ _ _ _ _ _ => rfl) fx_no) (fx_cnd (fun _ _ _ _ _ _ _ _ => rfl) fx_no)) (fx_cnd (fx_cnd (fun _ _ _ _ _ _ _ _ => rfl) fx_no) (fx_cnd (fun _ _ _ _ _ _ _ _ => rfl) fx_no))) (fx_cnd (fx_cnd (fx_cnd (fun _ _ _ _ _ _ _ _ => rfl) fx_no) (fx_cnd (fun _ _ _ _ _ _ _ _ => rfl) fx_no)) (fx_cnd (fx_cnd (fun _ _ _ _ _ _ _ _ => rfl) fx_no) (fx_cnd (fun _ _ _ _ _ _ _ _ => rfl) fx_no)))
theorem fk_174_2 (X : ez_X) (pc : Nat) : fx_ok X (ft_174_2 X pc) (ez_t174_2 pc) := by
  delta ft_174_2 ez_t174_2
  exact fx_cnd (fk_174_0 X pc) (fk_174_1 X pc)
theorem fk_174_3 (X : ez_X) (pc : Nat) : fx_ok X (ft_174_3 X pc) (ez_t174_3 pc) := by
  delta ft_174_3 ez_t174_3
  exact fx_cnd (fx_cnd (fx_cnd (fx_cnd (fun _ _ _ _ _ _ _ _ => rfl) fx_no) (fx_cnd (fun _ _ _ _ _ _ _ _ => rfl) fx_no)) (fx_cnd (fx_cnd (fun _ _ _ _ _ _ _ _ => rfl) fx_no) (fx_cnd (fun _ _ _ _ _ _ _ _ => rfl) fx_no))) (fx_cnd (fx_cnd (fx_cnd (fun _ _ _ _ _ _ _ _ => rfl) fx_no) (fx_cnd (fun _ _ _ _ _ _ _ _ => rfl) fx_no)) (fx_cnd (fx_cnd (fun _ _ _ _ _ _ _ _ => rfl) fx_no) (fx_cnd (fun _ _ _ _ _ _ _ _ => rfl) fx_no)))
theorem fk_174_4 (X : ez_X) (pc : Nat) : fx_ok X (ft_174_4 X pc) (ez_t174_4 pc) := by
  delta ft_174_4 ez_t174_4
  exact fx_cnd (fx_cnd (fx_cnd (fx_cnd (fun _ _ _ _ _ _ _ _ => rfl) fx_no) (fx_cnd (fun _ _ _ _ _ _ _ _ => rfl) fx_no)) (fx_cnd (fx_cnd (fun _ _ _ _ _ _ _ _ => rfl) fx_no) (fx_cnd (fun _ _ _ _ _ _ _ _ => rfl) fx_no))) (fx_cnd (fx_cnd (fx_cnd (fun _ _ _ _ _ _ _ _ => rfl) fx_no) (fx_cnd (fun _ _ _ _ _ _ _ _ => rfl) fx_no)) (fx_cnd (fx_cnd (fun _ _ _ _ _ _ _ _ => rfl) fx_no) (fx_cnd (fun _ _ _ _ _ _ _ _ => rfl) fx_no)))
theorem fk_174_5 (X : ez_X) (pc : Nat) : fx_ok X (ft_174_5 X pc) (ez_t174_5 pc) := by
  delta ft_174_5 ez_t174_5
  exact fx_cnd (fk_174_3 X pc) (fk_174_4 X pc)
theorem fk_174_6 (X : ez_X) (pc : Nat) : fx_ok X (ft_174_6 X pc) (ez_t174_6 pc) := by
  delta ft_174_6 ez_t174_6
  exact fx_cnd (fk_174_2 X pc) (fk_174_5 X pc)
theorem fk_174_7 (X : ez_X) (pc : Nat) : fx_ok X (ft_174_7 X pc) (ez_t174_7 pc) := by
  delta ft_174_7 ez_t174_7
  exact fx_cnd (fx_cnd (fx_cnd (fun _ _ _ _ _ _ _ _ => rfl) fx_no) (fx_cnd (fx_cnd (fun _ _ _ _ _ _ _ _ => rfl) fx_no) (fx_cnd (fun _ _ _ _ _ _ _ _ => rfl) fx_no))) (fx_cnd (fx_cnd (fx_cnd (fun _ _ _ _ _ _ _ _ => rfl) fx_no) (fx_cnd (fun _ _ _ _ _ _ _ _ => rfl) fx_no)) (fx_cnd (fx_cnd (fun _ _ _ _ _ _ _ _ => rfl) fx_no) (fx_cnd (fun _ _ _ _ _ _ _ _ => rfl) fx_no)))
theorem fk_174_8 (X : ez_X) (pc : Nat) : fx_ok X (ft_174_8 X pc) (ez_t174_8 pc) := by
  delta ft_174_8 ez_t174_8
  exact fx_cnd (fx_cnd (fx_cnd (fx_cnd (fun _ _ _ _ _ _ _ _ => rfl) fx_no) (fx_cnd (fun _ _ _ _ _ _ _ _ => rfl) fx_no)) (fx_cnd (fx_cnd (fun _ _ _ _ _ _ _ _ => rfl) fx_no) (fx_cnd (fun _ _ _ _ _ _ _ _ => rfl) fx_no))) (fx_cnd (fx_cnd (fx_cnd (fun _ _ _ _ _ _ _ _ => rfl) fx_no) (fx_cnd (fun _ _ _ _ _ _ _ _ => rfl) fx_no)) (fx_cnd (fx_cnd (fun _ _ _ _ _ _ _ _ => rfl) fx_no) (fx_cnd (fun _ _ _ _ _ _ _ _ => rfl) fx_no)))
theorem fk_174_9 (X : ez_X) (pc : Nat) : fx_ok X (ft_174_9 X pc) (ez_t174_9 pc) := by
  delta ft_174_9 ez_t174_9
  exact fx_cnd (fk_174_7 X pc) (fk_174_8 X pc)
theorem fk_174_10 (X : ez_X) (pc : Nat) : fx_ok X (ft_174_10 X pc) (ez_t174_10 pc) := by
  delta ft_174_10 ez_t174_10
  exact fx_cnd (fx_cnd (fx_cnd (fx_cnd (fun _ _ _ _ _ _ _ _ => rfl) fx_no) (fx_cnd (fun _ _ _ _ _ _ _ _ => rfl) fx_no)) (fx_cnd (fx_cnd (fun _ _ _ _ _ _ _ _ => rfl) fx_no) (fx_cnd (fun _ _ _ _ _ _ _ _ => rfl) fx_no))) (fx_cnd (fx_cnd (fx_cnd (fun _ _ _ _ _ _ _ _ => rfl) fx_no) (fx_cnd (fun _ _ _ _ _ _ _ _ => rfl) fx_no)) (fx_cnd (fx_cnd (fun _ _ _ _ _ _ _ _ => rfl) fx_no) (fx_cnd (fun _ _ _ _ _ _ _ _ => rfl) fx_no)))
theorem fk_174_11 (X : ez_X) (pc : Nat) : fx_ok X (ft_174_11 X pc) (ez_t174_11 pc) := by
  delta ft_174_11 ez_t174_11
  exact fx_cnd (fx_cnd (fx_cnd (fx_cnd (fun _ _ _ _ _ _ _ _ => rfl) fx_no) (fx_cnd (fun _ _ _ _ _ _ _ _ => rfl) fx_no)) (fx_cnd (fx_cnd (fun _ _ _ _ _ _ _ _ => rfl) fx_no) (fx_cnd (fun _ _ _ _ _ _ _ _ => rfl) fx_no))) (fx_cnd (fx_cnd (fx_cnd (fun _ _ _ _ _ _ _ _ => rfl) fx_no) (fx_cnd (fun _ _ _ _ _ _ _ _ => rfl) fx_no)) (fx_cnd (fx_cnd (fun _ _ _ _ _ _ _ _ => rfl) fx_no) (fx_cnd (fun _ _ _ _ _ _ _ _ => rfl) fx_no)))
theorem fk_174_12 (X : ez_X) (pc : Nat) : fx_ok X (ft_174_12 X pc) (ez_t174_12 pc) := by
  delta ft_174_12 ez_t174_12
  exact fx_cnd (fk_174_10 X pc) (fk_174_11 X pc)
theorem fk_174_13 (X : ez_X) (pc : Nat) : fx_ok X (ft_174_13 X pc) (ez_t174_13 pc) := by
  delta ft_174_13 ez_t174_13
  exact fx_cnd (fk_174_9 X pc) (fk_174_12 X pc)
theorem fk_174 (X : ez_X) (pc : Nat) : fx_ok X (ft_174 X pc) (ez_t174 pc) := by
  delta ft_174 ez_t174
  exact fx_cnd (fk_174_6 X pc) (fk_174_13 X pc)
theorem fk_175_0 (X : ez_X) (pc : Nat) : fx_ok X (ft_175_0 X pc) (ez_t175_0 pc) := by
  delta ft_175_0 ez_t175_0
  exact fx_cnd (fx_cnd (fx_cnd (fx_cnd (fun _ _ _ _ _ _ _ _ => rfl) fx_no) (fx_cnd (fun _ _ _ _ _ _ _ _ => rfl) fx_no)) (fx_cnd (fx_cnd (fun _ _ _ _ _ _ _ _ => rfl) fx_no) (fx_cnd (fx_cnd (fun _ _ _ _ _ _ _ _ => rfl) fx_no) (fx_cnd (fun _ _ _ _ _ _ _ _ => rfl) fx_no)))) (fx_cnd (fx_cnd (fx_cnd (fun _ _ _ _ _ _ _ _ => rfl) fx_no) (fx_cnd (fun _ _ _ _ _ _ _ _ => rfl) fx_no)) (fx_cnd (fx_cnd (fun _ _ _ _ _ _ _ _ => rfl) fx_no) (fx_cnd (fx_cnd (fun _ _ _ _ _ _ _ _ => rfl) fx_no) (fx_cnd (fun _ _ _ _ _ _ _ _ => rfl) fx_no))))
theorem fk_175_1 (X : ez_X) (pc : Nat) : fx_ok X (ft_175_1 X pc) (ez_t175_1 pc) := by
  delta ft_175_1 ez_t175_1
  exact fx_cnd (fx_cnd (fx_cnd (fx_cnd (fun _ _ _ _ _ _ _ _ => rfl) fx_no) (fx_cnd (fun _ _ _ _ _ _ _ _ => rfl) fx_no)) (fx_cnd (fx_cnd (fun _ _ _ _ _ _ _ _ => rfl) fx_no) (fx_cnd (fx_cnd (fun _ _ _ _ _ _ _ _ => rfl) fx_no) (fx_cnd (fun _ _ _ _ _ _ _ _ => rfl) fx_no)))) (fx_cnd (fx_cnd (fx_cnd (fun _ _ _ _ _ _ _ _ => rfl) fx_no) (fx_cnd (fun _ _ _ _ _ _ _ _ => rfl) fx_no)) (fx_cnd (fx_cnd (fun _ _ _ _ _ _ _ _ => rfl) fx_no) (fx_cnd (fx_cnd (fun _ _ _ _ _ _ _ _ => rfl) fx_no) (fx_cnd (fun _ _ _ _ _ _ _ _ => rfl) fx_no))))
theorem fk_175_2 (X : ez_X) (pc : Nat) : fx_ok X (ft_175_2 X pc) (ez_t175_2 pc) := by
  delta ft_175_2 ez_t175_2
  exact fx_cnd (fk_175_0 X pc) (fk_175_1 X pc)
theorem fk_175_3 (X : ez_X) (pc : Nat) : fx_ok X (ft_175_3 X pc) (ez_t175_3 pc) := by
  delta ft_175_3 ez_t175_3
  exact fx_cnd (fx_cnd (fx_cnd (fx_cnd (fun _ _ _ _ _ _ _ _ => rfl) fx_no) (fx_cnd (fun _ _ _ _ _ _ _ _ => rfl) fx_no)) (fx_cnd (fx_cnd (fun _ _ _ _ _ _ _ _ => rfl) fx_no) (fx_cnd (fx_cnd (fun _ _ _ _ _ _ _ _ => rfl) fx_no) (fx_cnd (fun _ _ _ _ _ _ _ _ => rfl) fx_no)))) (fx_cnd (fx_cnd (fx_cnd (fun _ _ _ _ _ _ _ _ => rfl) fx_no) (fx_cnd (fun _ _ _ _ _ _ _ _ => rfl) fx_no)) (fx_cnd (fx_cnd (fun _ _ _ _ _ _ _ _ => rfl) fx_no) (fx_cnd (fx_cnd (fun _ _ _ _ _ _ _ _ => rfl) fx_no) (fx_cnd (fun _ _ _ _ _ _ _ _ => rfl) fx_no))))
theorem fk_175_4 (X : ez_X) (pc : Nat) : fx_ok X (ft_175_4 X pc) (ez_t175_4 pc) := by
  delta ft_175_4 ez_t175_4
  exact fx_cnd (fx_cnd (fx_cnd (fx_cnd (fun _ _ _ _ _ _ _ _ => rfl) fx_no) (fx_cnd (fun _ _ _ _ _ _ _ _ => rfl) fx_no)) (fx_cnd (fx_cnd (fun _ _ _ _ _ _ _ _ => rfl) fx_no) (fx_cnd (fx_cnd (fun _ _ _ _ _ _ _ _ => rfl) fx_no) (fx_cnd (fun _ _ _ _ _ _ _ _ => rfl) fx_no)))) (fx_cnd (fx_cnd (fx_cnd (fun _ _ _ _ _ _ _ _ => rfl) fx_no) (fx_cnd (fx_cnd (fun _ _ _ _ _ _ _ _ => rfl) fx_no) (fx_cnd (fun _ _ _ _ _ _ _ _ => rfl) fx_no))) (fx_cnd (fx_cnd (fun _ _ _ _ _ _ _ _ => rfl) fx_no) (fx_cnd (fx_cnd (fun _ _ _ _ _ _ _ _ => rfl) fx_no) (fx_cnd (fun _ _ _ _ _ _ _ _ => rfl) fx_no))))
theorem fk_175_5 (X : ez_X) (pc : Nat) : fx_ok X (ft_175_5 X pc) (ez_t175_5 pc) := by
  delta ft_175_5 ez_t175_5
  exact fx_cnd (fk_175_3 X pc) (fk_175_4 X pc)
theorem fk_175 (X : ez_X) (pc : Nat) : fx_ok X (ft_175 X pc) (ez_t175 pc) := by
  delta ft_175 ez_t175
  exact fx_cnd (fk_175_2 X pc) (fk_175_5 X pc)
theorem fk_176_0 (X : ez_X) (pc : Nat) : fx_ok X (ft_176_0 X pc) (ez_t176_0 pc) := by
  delta ft_176_0 ez_t176_0
  exact fx_cnd (fx_cnd (fx_cnd (fun _ _ _ _ _ _ _ _ => rfl) fx_no) (fx_cnd (fx_cnd (fun _ _ _ _ _ _ _ _ => rfl) fx_no) (fx_cnd (fun _ _ _ _ _ _ _ _ => rfl) fx_no))) (fx_cnd (fx_cnd (fun _ _ _ _ _ _ _ _ => rfl) fx_no) (fx_cnd (fx_cnd (fun _ _ _ _ _ _ _ _ => rfl) fx_no) (fx_cnd (fun _ _ _ _ _ _ _ _ => rfl) fx_no)))
theorem fk_176_1 (X : ez_X) (pc : Nat) : fx_ok X (ft_176_1 X pc) (ez_t176_1 pc) := by
  delta ft_176_1 ez_t176_1
  exact fx_cnd (fx_cnd (fx_cnd (fun _ _ _ _ _ _ _ _ => rfl) fx_no) (fx_cnd (fx_cnd (fun _ _ _ _ _ _ _ _ => rfl) fx_no) (fx_cnd (fun _ _ _ _ _ _ _ _ => rfl) fx_no))) (fx_cnd (fx_cnd (fx_cnd (fun _ _ _ _ _ _ _ _ => rfl) fx_no) (fx_cnd (fun _ _ _ _ _ _ _ _ => rfl) fx_no)) (fx_cnd (fx_cnd (fun _ _ _ _ _ _ _ _ => rfl) fx_no) (fx_cnd (fun _ _ _ _ _ _ _ _ => rfl) fx_no)))
theorem fk_176_2 (X : ez_X) (pc : Nat) : fx_ok X (ft_176_2 X pc) (ez_t176_2 pc) := by
  delta ft_176_2 ez_t176_2
  exact fx_cnd (fk_176_0 X pc) (fk_176_1 X pc)
theorem fk_176_3 (X : ez_X) (pc : Nat) : fx_ok X (ft_176_3 X pc) (ez_t176_3 pc) := by
  delta ft_176_3 ez_t176_3
  exact fx_cnd (fx_cnd (fx_cnd (fun _ _ _ _ _ _ _ _ => rfl) fx_no) (fx_cnd (fx_cnd (fun _ _ _ _ _ _ _ _ => rfl) fx_no) (fx_cnd (fun _ _ _ _ _ _ _ _ => rfl) fx_no))) (fx_cnd (fx_cnd (fun _ _ _ _ _ _ _ _ => rfl) fx_no) (fx_cnd (fx_cnd (fun _ _ _ _ _ _ _ _ => rfl) fx_no) (fx_cnd (fun _ _ _ _ _ _ _ _ => rfl) fx_no)))
theorem fk_176_4 (X : ez_X) (pc : Nat) : fx_ok X (ft_176_4 X pc) (ez_t176_4 pc) := by
  delta ft_176_4 ez_t176_4
  exact fx_cnd (fx_cnd (fx_cnd (fun _ _ _ _ _ _ _ _ => rfl) fx_no) (fx_cnd (fx_cnd (fun _ _ _ _ _ _ _ _ => rfl) fx_no) (fx_cnd (fun _ _ _ _ _ _ _ _ => rfl) fx_no))) (fx_cnd (fx_cnd (fx_cnd (fun _ _ _ _ _ _ _ _ => rfl) fx_no) (fx_cnd (fun _ _ _ _ _ _ _ _ => rfl) fx_no)) (fx_cnd (fx_cnd (fun _ _ _ _ _ _ _ _ => rfl) fx_no) (fx_cnd (fun _ _ _ _ _ _ _ _ => rfl) fx_no)))
theorem fk_176_5 (X : ez_X) (pc : Nat) : fx_ok X (ft_176_5 X pc) (ez_t176_5 pc) := by
  delta ft_176_5 ez_t176_5
  exact fx_cnd (fk_176_3 X pc) (fk_176_4 X pc)
theorem fk_176_6 (X : ez_X) (pc : Nat) : fx_ok X (ft_176_6 X pc) (ez_t176_6 pc) := by
  delta ft_176_6 ez_t176_6
  exact fx_cnd (fk_176_2 X pc) (fk_176_5 X pc)
theorem fk_176_7 (X : ez_X) (pc : Nat) : fx_ok X (ft_176_7 X pc) (ez_t176_7 pc) := by
  delta ft_176_7 ez_t176_7
  exact fx_cnd (fx_cnd (fx_cnd (fun _ _ _ _ _ _ _ _ => rfl) fx_no) (fx_cnd (fx_cnd (fun _ _ _ _ _ _ _ _ => rfl) fx_no) (fx_cnd (fun _ _ _ _ _ _ _ _ => rfl) fx_no))) (fx_cnd (fx_cnd (fun _ _ _ _ _ _ _ _ => rfl) fx_no) (fx_cnd (fx_cnd (fun _ _ _ _ _ _ _ _ => rfl) fx_no) (fx_cnd (fun _ _ _ _ _ _ _ _ => rfl) fx_no)))
theorem fk_176_8 (X : ez_X) (pc : Nat) : fx_ok X (ft_176_8 X pc) (ez_t176_8 pc) := by
  delta ft_176_8 ez_t176_8
  exact fx_cnd (fx_cnd (fx_cnd (fun _ _ _ _ _ _ _ _ => rfl) fx_no) (fx_cnd (fx_cnd (fun _ _ _ _ _ _ _ _ => rfl) fx_no) (fx_cnd (fun _ _ _ _ _ _ _ _ => rfl) fx_no))) (fx_cnd (fx_cnd (fx_cnd (fun _ _ _ _ _ _ _ _ => rfl) fx_no) (fx_cnd (fun _ _ _ _ _ _ _ _ => rfl) fx_no)) (fx_cnd (fx_cnd (fun _ _ _ _ _ _ _ _ => rfl) fx_no) (fx_cnd (fun _ _ _ _ _ _ _ _ => rfl) fx_no)))
theorem fk_176_9 (X : ez_X) (pc : Nat) : fx_ok X (ft_176_9 X pc) (ez_t176_9 pc) := by
  delta ft_176_9 ez_t176_9
  exact fx_cnd (fk_176_7 X pc) (fk_176_8 X pc)
theorem fk_176_10 (X : ez_X) (pc : Nat) : fx_ok X (ft_176_10 X pc) (ez_t176_10 pc) := by
  delta ft_176_10 ez_t176_10
  exact fx_cnd (fx_cnd (fx_cnd (fun _ _ _ _ _ _ _ _ => rfl) fx_no) (fx_cnd (fx_cnd (fun _ _ _ _ _ _ _ _ => rfl) fx_no) (fx_cnd (fun _ _ _ _ _ _ _ _ => rfl) fx_no))) (fx_cnd (fx_cnd (fun _ _ _ _ _ _ _ _ => rfl) fx_no) (fx_cnd (fx_cnd (fun _ _ _ _ _ _ _ _ => rfl) fx_no) (fx_cnd (fun _ _ _ _ _ _ _ _ => rfl) fx_no)))
theorem fk_176_11 (X : ez_X) (pc : Nat) : fx_ok X (ft_176_11 X pc) (ez_t176_11 pc) := by
  delta ft_176_11 ez_t176_11
  exact fx_cnd (fx_cnd (fx_cnd (fun _ _ _ _ _ _ _ _ => rfl) fx_no) (fx_cnd (fx_cnd (fun _ _ _ _ _ _ _ _ => rfl) fx_no) (fx_cnd (fun _ _ _ _ _ _ _ _ => rfl) fx_no))) (fx_cnd (fx_cnd (fx_cnd (fun _ _ _ _ _ _ _ _ => rfl) fx_no) (fx_cnd (fun _ _ _ _ _ _ _ _ => rfl) fx_no)) (fx_cnd (fx_cnd (fun _ _ _ _ _ _ _ _ => rfl) fx_no) (fx_cnd (fun _ _ _ _ _ _ _ _ => rfl) fx_no)))
theorem fk_176_12 (X : ez_X) (pc : Nat) : fx_ok X (ft_176_12 X pc) (ez_t176_12 pc) := by
  delta ft_176_12 ez_t176_12
  exact fx_cnd (fk_176_10 X pc) (fk_176_11 X pc)
theorem fk_176_13 (X : ez_X) (pc : Nat) : fx_ok X (ft_176_13 X pc) (ez_t176_13 pc) := by
  delta ft_176_13 ez_t176_13
  exact fx_cnd (fk_176_9 X pc) (fk_176_12 X pc)
theorem fk_176 (X : ez_X) (pc : Nat) : fx_ok X (ft_176 X pc) (ez_t176 pc) := by
  delta ft_176 ez_t176
  exact fx_cnd (fk_176_6 X pc) (fk_176_13 X pc)
theorem fk_177_0 (X : ez_X) (pc : Nat) : fx_ok X (ft_177_0 X pc) (ez_t177_0 pc) := by
  delta ft_177_0 ez_t177_0
  exact fx_cnd (fx_cnd (fx_cnd (fx_cnd (fun _ _ _ _ _ _ _ _ => rfl) fx_no) (fx_cnd (fx_cnd (fun _ _ _ _ _ _ _ _ => rfl) fx_no) (fx_cnd (fun _ _ _ _ _ _ _ _ => rfl) fx_no))) (fx_cnd (fx_cnd (fun _ _ _ _ _ _ _ _ => rfl) fx_no) (fx_cnd (fx_cnd (fun _ _ _ _ _ _ _ _ => rfl) fx_no) (fx_cnd (fun _ _ _ _ _ _ _ _ => rfl) fx_no)))) (fx_cnd (fx_cnd (fx_cnd (fun _ _ _ _ _ _ _ _ => rfl) fx_no) (fx_cnd (fx_cnd (fun _ _ _ _ _ _ _ _ => rfl) fx_no) (fx_cnd (fun _ _ _ _ _ _ _ _ => rfl) fx_no))) (fx_cnd (fx_cnd (fun _ _ _ _ _ _ _ _ => rfl) fx_no) (fx_cnd (fx_cnd (fun _ _ _ _ _ _ _ _ => rfl) fx_no) (fx_cnd (fun _ _ _ _ _ _ _ _ => rfl) fx_no))))
theorem fk_177_1 (X : ez_X) (pc : Nat) : fx_ok X (ft_177_1 X pc) (ez_t177_1 pc) := by
  delta ft_177_1 ez_t177_1
  exact fx_cnd (fx_cnd (fx_cnd (fx_cnd (fun _ _ _ _ _ _ _ _ => rfl) fx_no) (fx_cnd (fx_cnd (fun _ _ _ _ _ _ _ _ => rfl) fx_no) (fx_cnd (fun _ _ _ _ _ _ _ _ => rfl) fx_no))) (fx_cnd (fx_cnd (fun _ _ _ _ _ _ _ _ => rfl) fx_no) (fx_cnd (fx_cnd (fun _ _ _ _ _ _ _ _ => rfl) fx_no) (fx_cnd (fun _ _ _ _ _ _ _ _ => rfl) fx_no)))) (fx_cnd (fx_cnd (fx_cnd (fun _ _ _ _ _ _ _ _ => rfl) fx_no) (fx_cnd (fx_cnd (fun _ _ _ _ _ _ _ _ => rfl) fx_no) (fx_cnd (fun _ _ _ _ _ _ _ _ => rfl) fx_no))) (fx_cnd (fx_cnd (fun _ _ _ _ _ _ _ _ => rfl) fx_no) (fx_cnd (fx_cnd (fun _ _ _ _ _ _ _ _ => rfl) fx_no) (fx_cnd (fun _ _ _ _ _ _ _ _ => rfl) fx_no))))
theorem fk_177_2 (X : ez_X) (pc : Nat) : fx_ok X (ft_177_2 X pc) (ez_t177_2 pc) := by
  delta ft_177_2 ez_t177_2
  exact fx_cnd (fk_177_0 X pc) (fk_177_1 X pc)
theorem fk_177_3 (X : ez_X) (pc : Nat) : fx_ok X (ft_177_3 X pc) (ez_t177_3 pc) := by
  delta ft_177_3 ez_t177_3
  exact fx_cnd (fx_cnd (fx_cnd (fx_cnd (fun _ _ _ _ _ _ _ _ => rfl) fx_no) (fx_cnd (fx_cnd (fun _ _ _ _ _ _ _ _ => rfl) fx_no) (fx_cnd (fun _ _ _ _ _ _ _ _ => rfl) fx_no))) (fx_cnd (fx_cnd (fun _ _ _ _ _ _ _ _ => rfl) fx_no) (fx_cnd (fx_cnd (fun _ _ _ _ _ _ _ _ => rfl) fx_no) (fx_cnd (fun _ _ _ _ _ _ _ _ => rfl) fx_no)))) (fx_cnd (fx_cnd (fx_cnd (fun _ _ _ _ _ _ _ _ => rfl) fx_no) (fx_cnd (fx_cnd (fun _ _ _ _ _ _ _ _ => rfl) fx_no) (fx_cnd (fun _ _ _ _ _ _ _ _ => rfl) fx_no))) (fx_cnd (fx_cnd (fun _ _ _ _ _ _ _ _ => rfl) fx_no) (fx_cnd (fx_cnd (fun _ _ _ _ _ _ _ _ => rfl) fx_no) (fx_cnd (fun _ _ _ _ _ _ _ _ => rfl) fx_no))))
theorem fk_177_4 (X : ez_X) (pc : Nat) : fx_ok X (ft_177_4 X pc) (ez_t177_4 pc) := by
  delta ft_177_4 ez_t177_4
  exact fx_cnd (fx_cnd (fx_cnd (fun _ _ _ _ _ _ _ _ => rfl) fx_no) (fx_cnd (fx_cnd (fun _ _ _ _ _ _ _ _ => rfl) fx_no) (fx_cnd (fun _ _ _ _ _ _ _ _ => rfl) fx_no))) (fx_cnd (fx_cnd (fun _ _ _ _ _ _ _ _ => rfl) fx_no) (fx_cnd (fx_cnd (fun _ _ _ _ _ _ _ _ => rfl) fx_no) (fx_cnd (fun _ _ _ _ _ _ _ _ => rfl) fx_no)))
theorem fk_177_5 (X : ez_X) (pc : Nat) : fx_ok X (ft_177_5 X pc) (ez_t177_5 pc) := by
  delta ft_177_5 ez_t177_5
  exact fx_cnd (fx_cnd (fx_cnd (fun _ _ _ _ _ _ _ _ => rfl) fx_no) (fx_cnd (fx_cnd (fun _ _ _ _ _ _ _ _ => rfl) fx_no) (fx_cnd (fun _ _ _ _ _ _ _ _ => rfl) fx_no))) (fx_cnd (fx_cnd (fx_cnd (fun _ _ _ _ _ _ _ _ => rfl) fx_no) (fx_cnd (fun _ _ _ _ _ _ _ _ => rfl) fx_no)) (fx_cnd (fx_cnd (fun _ _ _ _ _ _ _ _ => rfl) fx_no) (fx_cnd (fun _ _ _ _ _ _ _ _ => rfl) fx_no)))
theorem fk_177_6 (X : ez_X) (pc : Nat) : fx_ok X (ft_177_6 X pc) (ez_t177_6 pc) := by
  delta ft_177_6 ez_t177_6
  exact fx_cnd (fk_177_4 X pc) (fk_177_5 X pc)
theorem fk_177_7 (X : ez_X) (pc : Nat) : fx_ok X (ft_177_7 X pc) (ez_t177_7 pc) := by
  delta ft_177_7 ez_t177_7
  exact fx_cnd (fk_177_3 X pc) (fk_177_6 X pc)
theorem fk_177_8 (X : ez_X) (pc : Nat) : fx_ok X (ft_177_8 X pc) (ez_t177_8 pc) := by
  delta ft_177_8 ez_t177_8
  exact fx_cnd (fk_177_2 X pc) (fk_177_7 X pc)
theorem fk_177_9 (X : ez_X) (pc : Nat) : fx_ok X (ft_177_9 X pc) (ez_t177_9 pc) := by
  delta ft_177_9 ez_t177_9
  exact fx_cnd (fx_cnd (fx_cnd (fx_cnd (fun _ _ _ _ _ _ _ _ => rfl) fx_no) (fx_cnd (fx_cnd (fun _ _ _ _ _ _ _ _ => rfl) fx_no) (fx_cnd (fun _ _ _ _ _ _ _ _ => rfl) fx_no))) (fx_cnd (fx_cnd (fun _ _ _ _ _ _ _ _ => rfl) fx_no) (fx_cnd (fx_cnd (fun _ _ _ _ _ _ _ _ => rfl) fx_no) (fx_cnd (fun _ _ _ _ _ _ _ _ => rfl) fx_no)))) (fx_cnd (fx_cnd (fx_cnd (fun _ _ _ _ _ _ _ _ => rfl) fx_no) (fx_cnd (fx_cnd (fun _ _ _ _ _ _ _ _ => rfl) fx_no) (fx_cnd (fun _ _ _ _ _ _ _ _ => rfl) fx_no))) (fx_cnd (fx_cnd (fun _ _ _ _ _ _ _ _ => rfl) fx_no) (fx_cnd (fx_cnd (fun _ _ _ _ _ _ _ _ => rfl) fx_no) (fx_cnd (fun _ _ _ _ _ _ _ _ => rfl) fx_no))))
theorem fk_177_10 (X : ez_X) (pc : Nat) : fx_ok X (ft_177_10 X pc) (ez_t177_10 pc) := by
  delta ft_177_10 ez_t177_10
  exact fx_cnd (fx_cnd (fx_cnd (fun _ _ _ _ _ _ _ _ => rfl) fx_no) (fx_cnd (fx_cnd (fun _ _ _ _ _ _ _ _ => rfl) fx_no) (fx_cnd (fun _ _ _ _ _ _ _ _ => rfl) fx_no))) (fx_cnd (fx_cnd (fun _ _ _ _ _ _ _ _ => rfl) fx_no) (fx_cnd (fx_cnd (fun _ _ _ _ _ _ _ _ => rfl) fx_no) (fx_cnd (fun _ _ _ _ _ _ _ _ => rfl) fx_no)))
theorem fk_177_11 (X : ez_X) (pc : Nat) : fx_ok X (ft_177_11 X pc) (ez_t177_11 pc) := by
  delta ft_177_11 ez_t177_11
  exact fx_cnd (fx_cnd (fx_cnd (fun _ _ _ _ _ _ _ _ => rfl) fx_no) (fx_cnd (fx_cnd (fun _ _ _ _ _ _ _ _ => rfl) fx_no) (fx_cnd (fun _ _ _ _ _ _ _ _ => rfl) fx_no))) (fx_cnd (fx_cnd (fx_cnd (fun _ _ _ _ _ _ _ _ => rfl) fx_no) (fx_cnd (fun _ _ _ _ _ _ _ _ => rfl) fx_no)) (fx_cnd (fx_cnd (fun _ _ _ _ _ _ _ _ => rfl) fx_no) (fx_cnd (fun _ _ _ _ _ _ _ _ => rfl) fx_no)))
theorem fk_177_12 (X : ez_X) (pc : Nat) : fx_ok X (ft_177_12 X pc) (ez_t177_12 pc) := by
  delta ft_177_12 ez_t177_12
  exact fx_cnd (fk_177_10 X pc) (fk_177_11 X pc)
theorem fk_177_13 (X : ez_X) (pc : Nat) : fx_ok X (ft_177_13 X pc) (ez_t177_13 pc) := by
  delta ft_177_13 ez_t177_13
  exact fx_cnd (fk_177_9 X pc) (fk_177_12 X pc)
theorem fk_177_14 (X : ez_X) (pc : Nat) : fx_ok X (ft_177_14 X pc) (ez_t177_14 pc) := by
  delta ft_177_14 ez_t177_14
  exact fx_cnd (fx_cnd (fx_cnd (fx_cnd (fun _ _ _ _ _ _ _ _ => rfl) fx_no) (fx_cnd (fx_cnd (fun _ _ _ _ _ _ _ _ => rfl) fx_no) (fx_cnd (fun _ _ _ _ _ _ _ _ => rfl) fx_no))) (fx_cnd (fx_cnd (fun _ _ _ _ _ _ _ _ => rfl) fx_no) (fx_cnd (fx_cnd (fun _ _ _ _ _ _ _ _ => rfl) fx_no) (fx_cnd (fun _ _ _ _ _ _ _ _ => rfl) fx_no)))) (fx_cnd (fx_cnd (fx_cnd (fun _ _ _ _ _ _ _ _ => rfl) fx_no) (fx_cnd (fx_cnd (fun _ _ _ _ _ _ _ _ => rfl) fx_no) (fx_cnd (fun _ _ _ _ _ _ _ _ => rfl) fx_no))) (fx_cnd (fx_cnd (fun _ _ _ _ _ _ _ _ => rfl) fx_no) (fx_cnd (fx_cnd (fun _ _ _ _ _ _ _ _ => rfl) fx_no) (fx_cnd (fun _ _ _ _ _ _ _ _ => rfl) fx_no))))
theorem fk_177_15 (X : ez_X) (pc : Nat) : fx_ok X (ft_177_15 X pc) (ez_t177_15 pc) := by
  delta ft_177_15 ez_t177_15
  exact fx_cnd (fx_cnd (fx_cnd (fun _ _ _ _ _ _ _ _ => rfl) fx_no) (fx_cnd (fx_cnd (fun _ _ _ _ _ _ _ _ => rfl) fx_no) (fx_cnd (fun _ _ _ _ _ _ _ _ => rfl) fx_no))) (fx_cnd (fx_cnd (fun _ _ _ _ _ _ _ _ => rfl) fx_no) (fx_cnd (fx_cnd (fun _ _ _ _ _ _ _ _ => rfl) fx_no) (fx_cnd (fun _ _ _ _ _ _ _ _ => rfl) fx_no)))
theorem fk_177_16 (X : ez_X) (pc : Nat) : fx_ok X (ft_177_16 X pc) (ez_t177_16 pc) := by
  delta ft_177_16 ez_t177_16
  exact fx_cnd (fx_cnd (fx_cnd (fun _ _ _ _ _ _ _ _ => rfl) fx_no) (fx_cnd (fx_cnd (fun _ _ _ _ _ _ _ _ => rfl) fx_no) (fx_cnd (fun _ _ _ _ _ _ _ _ => rfl) fx_no))) (fx_cnd (fx_cnd (fx_cnd (fun _ _ _ _ _ _ _ _ => rfl) fx_no) (fx_cnd (fun _ _ _ _ _ _ _ _ => rfl) fx_no)) (fx_cnd (fx_cnd (fun _ _ _ _ _ _ _ _ => rfl) fx_no) (fx_cnd (fun _ _ _ _ _ _ _ _ => rfl) fx_no)))
theorem fk_177_17 (X : ez_X) (pc : Nat) : fx_ok X (ft_177_17 X pc) (ez_t177_17 pc) := by
  delta ft_177_17 ez_t177_17
  exact fx_cnd (fk_177_15 X pc) (fk_177_16 X pc)
theorem fk_177_18 (X : ez_X) (pc : Nat) : fx_ok X (ft_177_18 X pc) (ez_t177_18 pc) := by
  delta ft_177_18 ez_t177_18
  exact fx_cnd (fk_177_14 X pc) (fk_177_17 X pc)
theorem fk_177_19 (X : ez_X) (pc : Nat) : fx_ok X (ft_177_19 X pc) (ez_t177_19 pc) := by
  delta ft_177_19 ez_t177_19
  exact fx_cnd (fk_177_13 X pc) (fk_177_18 X pc)
theorem fk_177 (X : ez_X) (pc : Nat) : fx_ok X (ft_177 X pc) (ez_t177 pc) := by
  delta ft_177 ez_t177
  exact fx_cnd (fk_177_8 X pc) (fk_177_19 X pc)
theorem fk_178_0 (X : ez_X) (pc : Nat) : fx_ok X (ft_178_0 X pc) (ez_t178_0 pc) := by
  delta ft_178_0 ez_t178_0
  exact fx_cnd (fx_cnd (fx_cnd (fun _ _ _ _ _ _ _ _ => rfl) fx_no) (fx_cnd (fx_cnd (fun _ _ _ _ _ _ _ _ => rfl) fx_no) (fx_cnd (fun _ _ _ _ _ _ _ _ => rfl) fx_no))) (fx_cnd (fx_cnd (fun _ _ _ _ _ _ _ _ => rfl) fx_no) (fx_cnd (fx_cnd (fun _ _ _ _ _ _ _ _ => rfl) fx_no) (fx_cnd (fun _ _ _ _ _ _ _ _ => rfl) fx_no)))
theorem fk_178_1 (X : ez_X) (pc : Nat) : fx_ok X (ft_178_1 X pc) (ez_t178_1 pc) := by
  delta ft_178_1 ez_t178_1
  exact fx_cnd (fx_cnd (fx_cnd (fun _ _ _ _ _ _ _ _ => rfl) fx_no) (fx_cnd (fx_cnd (fun _ _ _ _ _ _ _ _ => rfl) fx_no) (fx_cnd (fun _ _ _ _ _ _ _ _ => rfl) fx_no))) (fx_cnd (fx_cnd (fx_cnd (fun _ _ _ _ _ _ _ _ => rfl) fx_no) (fx_cnd (fun _ _ _ _ _ _ _ _ => rfl) fx_no)) (fx_cnd (fx_cnd (fun _ _ _ _ _ _ _ _ => rfl) fx_no) (fx_cnd (fun _ _ _ _ _ _ _ _ => rfl) fx_no)))
theorem fk_178_2 (X : ez_X) (pc : Nat) : fx_ok X (ft_178_2 X pc) (ez_t178_2 pc) := by
  delta ft_178_2 ez_t178_2
  exact fx_cnd (fk_178_0 X pc) (fk_178_1 X pc)
theorem fk_178_3 (X : ez_X) (pc : Nat) : fx_ok X (ft_178_3 X pc) (ez_t178_3 pc) := by
  delta ft_178_3 ez_t178_3
  exact fx_cnd (fx_cnd (fx_cnd (fun _ _ _ _ _ _ _ _ => rfl) fx_no) (fx_cnd (fx_cnd (fun _ _ _ _ _ _ _ _ => rfl) fx_no) (fx_cnd (fun _ _ _ _ _ _ _ _ => rfl) fx_no))) (fx_cnd (fx_cnd (fx_cnd (fun _ _ _ _ _ _ _ _ => rfl) fx_no) (fx_cnd (fun _ _ _ _ _ _ _ _ => rfl) fx_no)) (fx_cnd (fx_cnd (fun _ _ _ _ _ _ _ _ => rfl) fx_no) (fx_cnd (fun _ _ _ _ _ _ _ _ => rfl) fx_no)))
theorem fk_178_4 (X : ez_X) (pc : Nat) : fx_ok X (ft_178_4 X pc) (ez_t178_4 pc) := by
  delta ft_178_4 ez_t178_4
  exact fx_cnd (fx_cnd (fx_cnd (fun _ _ _ _ _ _ _ _ => rfl) fx_no) (fx_cnd (fx_cnd (fun _ _ _ _ _ _ _ _ => rfl) fx_no) (fx_cnd (fun _ _ _ _ _ _ _ _ => rfl) fx_no))) (fx_cnd (fx_cnd (fx_cnd (fun _ _ _ _ _ _ _ _ => rfl) fx_no) (fx_cnd (fun _ _ _ _ _ _ _ _ => rfl) fx_no)) (fx_cnd (fx_cnd (fun _ _ _ _ _ _ _ _ => rfl) fx_no) (fx_cnd (fun _ _ _ _ _ _ _ _ => rfl) fx_no)))
theorem fk_178_5 (X : ez_X) (pc : Nat) : fx_ok X (ft_178_5 X pc) (ez_t178_5 pc) := by
  delta ft_178_5 ez_t178_5
  exact fx_cnd (fk_178_3 X pc) (fk_178_4 X pc)
theorem fk_178 (X : ez_X) (pc : Nat) : fx_ok X (ft_178 X pc) (ez_t178 pc) := by
  delta ft_178 ez_t178
  exact fx_cnd (fk_178_2 X pc) (fk_178_5 X pc)
theorem fk_179 (X : ez_X) (pc : Nat) : fx_ok X (ft_179 X pc) (ez_t179 pc) := by
  delta ft_179 ez_t179
  exact fx_cnd (fx_cnd (fx_cnd (fun _ _ _ _ _ _ _ _ => rfl) fx_no) (fx_cnd (fx_cnd (fun _ _ _ _ _ _ _ _ => rfl) fx_no) (fx_cnd (fun _ _ _ _ _ _ _ _ => rfl) fx_no))) (fx_cnd (fx_cnd (fun _ _ _ _ _ _ _ _ => rfl) fx_no) (fx_cnd (fx_cnd (fun _ _ _ _ _ _ _ _ => rfl) fx_no) (fx_cnd (fun _ _ _ _ _ _ _ _ => rfl) fx_no)))
theorem fk_180_0 (X : ez_X) (pc : Nat) : fx_ok X (ft_180_0 X pc) (ez_t180_0 pc) := by
  delta ft_180_0 ez_t180_0
  exact fx_cnd (fx_cnd (fx_cnd (fun _ _ _ _ _ _ _ _ => rfl) fx_no) (fx_cnd (fx_cnd (fun _ _ _ _ _ _ _ _ => rfl) fx_no) (fx_cnd (fun _ _ _ _ _ _ _ _ => rfl) fx_no))) (fx_cnd (fx_cnd (fx_cnd (fun _ _ _ _ _ _ _ _ => rfl) fx_no) (fx_cnd (fun _ _ _ _ _ _ _ _ => rfl) fx_no)) (fx_cnd (fx_cnd (fun _ _ _ _ _ _ _ _ => rfl) fx_no) (fx_cnd (fun _ _ _ _ _ _ _ _ => rfl) fx_no)))
theorem fk_180_1 (X : ez_X) (pc : Nat) : fx_ok X (ft_180_1 X pc) (ez_t180_1 pc) := by
  delta ft_180_1 ez_t180_1
  exact fx_cnd (fx_cnd (fx_cnd (fx_cnd (fun _ _ _ _ _ _ _ _ => rfl) fx_no) (fx_cnd (fun _ _ _ _ _ _ _ _ => rfl) fx_no)) (fx_cnd (fx_cnd (fun _ _ _ _ _ _ _ _ => rfl) fx_no) (fx_cnd (fun _ _ _ _ _ _ _ _ => rfl) fx_no))) (fx_cnd (fx_cnd (fx_cnd (fun _ _ _ _ _ _ _ _ => rfl) fx_no) (fx_cnd (fun _ _ _ _ _ _ _ _ => rfl) fx_no)) (fx_cnd (fx_cnd (fun _ _ _ _ _ _ _ _ => rfl) fx_no) (fx_cnd (fun _ _ _ _ _ _ _ _ => rfl) fx_no)))
theorem fk_180_2 (X : ez_X) (pc : Nat) : fx_ok X (ft_180_2 X pc) (ez_t180_2 pc) := by
  delta ft_180_2 ez_t180_2
  exact fx_cnd (fk_180_0 X pc) (fk_180_1 X pc)
theorem fk_180_3 (X : ez_X) (pc : Nat) : fx_ok X (ft_180_3 X pc) (ez_t180_3 pc) := by
  delta ft_180_3 ez_t180_3
  exact fx_cnd (fx_cnd (fx_cnd (fun _ _ _ _ _ _ _ _ => rfl) fx_no) (fx_cnd (fx_cnd (fun _ _ _ _ _ _ _ _ => rfl) fx_no) (fx_cnd (fun _ _ _ _ _ _ _ _ => rfl) fx_no))) (fx_cnd (fx_cnd (fx_cnd (fun _ _ _ _ _ _ _ _ => rfl) fx_no) (fx_cnd (fun _ _ _ _ _ _ _ _ => rfl) fx_no)) (fx_cnd (fx_cnd (fun _ _ _ _ _ _ _ _ => rfl) fx_no) (fx_cnd (fun _ _ _ _ _ _ _ _ => rfl) fx_no)))
theorem fk_180_4 (X : ez_X) (pc : Nat) : fx_ok X (ft_180_4 X pc) (ez_t180_4 pc) := by
  delta ft_180_4 ez_t180_4
  exact fx_cnd (fx_cnd (fx_cnd (fx_cnd (fun _ _ _ _ _ _ _ _ => rfl) fx_no) (fx_cnd (fun _ _ _ _ _ _ _ _ => rfl) fx_no)) (fx_cnd (fx_cnd (fun _ _ _ _ _ _ _ _ => rfl) fx_no) (fx_cnd (fun _ _ _ _ _ _ _ _ => rfl) fx_no))) (fx_cnd (fx_cnd (fx_cnd (fun _ _ _ _ _ _ _ _ => rfl) fx_no) (fx_cnd (fun _ _ _ _ _ _ _ _ => rfl) fx_no)) (fx_cnd (fx_cnd (fun _ _ _ _ _ _ _ _ => rfl) fx_no) (fx_cnd (fun _ _ _ _ _ _ _ _ => rfl) fx_no)))
theorem fk_180_5 (X : ez_X) (pc : Nat) : fx_ok X (ft_180_5 X pc) (ez_t180_5 pc) := by
  delta ft_180_5 ez_t180_5
  exact fx_cnd (fk_180_3 X pc) (fk_180_4 X pc)
theorem fk_180 (X : ez_X) (pc : Nat) : fx_ok X (ft_180 X pc) (ez_t180 pc) := by
  delta ft_180 ez_t180
  exact fx_cnd (fk_180_2 X pc) (fk_180_5 X pc)
theorem fk_181_0 (X : ez_X) (pc : Nat) : fx_ok X (ft_181_0 X pc) (ez_t181_0 pc) := by
  delta ft_181_0 ez_t181_0
  exact fx_cnd (fx_cnd (fx_cnd (fx_cnd (fun _ _ _ _ _ _ _ _ => rfl) fx_no) (fx_cnd (fun _ _ _ _ _ _ _ _ => rfl) fx_no)) (fx_cnd (fx_cnd (fun _ _ _ _ _ _ _ _ => rfl) fx_no) (fx_cnd (fun _ _ _ _ _ _ _ _ => rfl) fx_no))) (fx_cnd (fx_cnd (fx_cnd (fun _ _ _ _ _ _ _ _ => rfl) fx_no) (fx_cnd (fun _ _ _ _ _ _ _ _ => rfl) fx_no)) (fx_cnd (fx_cnd (fun _ _ _ _ _ _ _ _ => rfl) fx_no) (fx_cnd (fun _ _ _ _ _ _ _ _ => rfl) fx_no)))
theorem fk_181_1 (X : ez_X) (pc : Nat) : fx_ok X (ft_181_1 X pc) (ez_t181_1 pc) := by
  delta ft_181_1 ez_t181_1
  exact fx_cnd (fx_cnd (fx_cnd (fx_cnd (fun _ _ _ _ _ _ _ _ => rfl) fx_no) (fx_cnd (fun _ _ _ _ _ _ _ _ => rfl) fx_no)) (fx_cnd (fx_cnd (fun _ _ _ _ _ _ _ _ => rfl) fx_no) (fx_cnd (fun _ _ _ _ _ _ _ _ => rfl) fx_no))) (fx_cnd (fx_cnd (fx_cnd (fun _ _ _ _ _ _ _ _ => rfl) fx_no) (fx_cnd (fun _ _ _ _ _ _ _ _ => rfl) fx_no)) (fx_cnd (fx_cnd (fun _ _ _ _ _ _ _ _ => rfl) fx_no) (fx_cnd (fun _ _ _ _ _ _ _ _ => rfl) fx_no)))
theorem fk_181_2 (X : ez_X) (pc : Nat) : fx_ok X (ft_181_2 X pc) (ez_t181_2 pc) := by
  delta ft_181_2 ez_t181_2
  exact fx_cnd (fk_181_0 X pc) (fk_181_1 X pc)
theorem fk_181_3 (X : ez_X) (pc : Nat) : fx_ok X (ft_181_3 X pc) (ez_t181_3 pc) := by
  delta ft_181_3 ez_t181_3
  exact fx_cnd (fx_cnd (fx_cnd (fx_cnd (fun _ _ _ _ _ _ _ _ => rfl) fx_no) (fx_cnd (fun _ _ _ _ _ _ _ _ => rfl) fx_no)) (fx_cnd (fx_cnd (fun _ _ _ _ _ _ _ _ => rfl) fx_no) (fx_cnd (fun _ _ _ _ _ _ _ _ => rfl) fx_no))) (fx_cnd (fx_cnd (fx_cnd (fun _ _ _ _ _ _ _ _ => rfl) fx_no) (fx_cnd (fun _ _ _ _ _ _ _ _ => rfl) fx_no)) (fx_cnd (fx_cnd (fun _ _ _ _ _ _ _ _ => rfl) fx_no) (fx_cnd (fun _ _ _ _ _ _ _ _ => rfl) fx_no)))
theorem fk_181_4 (X : ez_X) (pc : Nat) : fx_ok X (ft_181_4 X pc) (ez_t181_4 pc) := by
  delta ft_181_4 ez_t181_4
  exact fx_cnd (fx_cnd (fx_cnd (fx_cnd (fun _ _ _ _ _ _ _ _ => rfl) fx_no) (fx_cnd (fun _ _ _ _ _ _ _ _ => rfl) fx_no)) (fx_cnd (fx_cnd (fun _ _ _ _ _ _ _ _ => rfl) fx_no) (fx_cnd (fun _ _ _ _ _ _ _ _ => rfl) fx_no))) (fx_cnd (fx_cnd (fx_cnd (fun _ _ _ _ _ _ _ _ => rfl) fx_no) (fx_cnd (fun _ _ _ _ _ _ _ _ => rfl) fx_no)) (fx_cnd (fx_cnd (fun _ _ _ _ _ _ _ _ => rfl) fx_no) (fx_cnd (fun _ _ _ _ _ _ _ _ => rfl) fx_no)))
theorem fk_181_5 (X : ez_X) (pc : Nat) : fx_ok X (ft_181_5 X pc) (ez_t181_5 pc) := by
  delta ft_181_5 ez_t181_5
  exact fx_cnd (fk_181_3 X pc) (fk_181_4 X pc)
theorem fk_181_6 (X : ez_X) (pc : Nat) : fx_ok X (ft_181_6 X pc) (ez_t181_6 pc) := by
  delta ft_181_6 ez_t181_6
  exact fx_cnd (fk_181_2 X pc) (fk_181_5 X pc)
theorem fk_181_7 (X : ez_X) (pc : Nat) : fx_ok X (ft_181_7 X pc) (ez_t181_7 pc) := by
  delta ft_181_7 ez_t181_7
  exact fx_cnd (fx_cnd (fx_cnd (fx_cnd (fun _ _ _ _ _ _ _ _ => rfl) fx_no) (fx_cnd (fun _ _ _ _ _ _ _ _ => rfl) fx_no)) (fx_cnd (fx_cnd (fun _ _ _ _ _ _ _ _ => rfl) fx_no) (fx_cnd (fun _ _ _ _ _ _ _ _ => rfl) fx_no))) (fx_cnd (fx_cnd (fx_cnd (fun _ _ _ _ _ _ _ _ => rfl) fx_no) (fx_cnd (fun _ _ _ _ _ _ _ _ => rfl) fx_no)) (fx_cnd (fx_cnd (fun _ _ _ _ _ _ _ _ => rfl) fx_no) (fx_cnd (fun _ _ _ _ _ _ _ _ => rfl) fx_no)))
theorem fk_181_8 (X : ez_X) (pc : Nat) : fx_ok X (ft_181_8 X pc) (ez_t181_8 pc) := by
  delta ft_181_8 ez_t181_8
  exact fx_cnd (fx_cnd (fx_cnd (fx_cnd (fun _ _ _ _ _ _ _ _ => rfl) fx_no) (fx_cnd (fun _ _ _ _ _ _ _ _ => rfl) fx_no)) (fx_cnd (fx_cnd (fun _ _ _ _ _ _ _ _ => rfl) fx_no) (fx_cnd (fun _ _ _ _ _ _ _ _ => rfl) fx_no))) (fx_cnd (fx_cnd (fx_cnd (fun _ _ _ _ _ _ _ _ => rfl) fx_no) (fx_cnd (fun _ _ _ _ _ _ _ _ => rfl) fx_no)) (fx_cnd (fx_cnd (fun _ _ _ _ _ _ _ _ => rfl) fx_no) (fx_cnd (fun _ _ _ _ _ _ _ _ => rfl) fx_no)))
theorem fk_181_9 (X : ez_X) (pc : Nat) : fx_ok X (ft_181_9 X pc) (ez_t181_9 pc) := by
  delta ft_181_9 ez_t181_9
  exact fx_cnd (fk_181_7 X pc) (fk_181_8 X pc)
theorem fk_181_10 (X : ez_X) (pc : Nat) : fx_ok X (ft_181_10 X pc) (ez_t181_10 pc) := by
  delta ft_181_10 ez_t181_10
  exact fx_cnd (fx_cnd (fx_cnd (fx_cnd (fun _ _ _ _ _ _ _ _ => rfl) fx_no) (fx_cnd (fun _ _ _ _ _ _ _ _ => rfl) fx_no)) (fx_cnd (fx_cnd (fun _ _ _ _ _ _ _ _ => rfl) fx_no) (fx_cnd (fun _ _ _ _ _ _ _ _ => rfl) fx_no))) (fx_cnd (fx_cnd (fx_cnd (fun _ _ _ _ _ _ _ _ => rfl) fx_no) (fx_cnd (fun _ _ _ _ _ _ _ _ => rfl) fx_no)) (fx_cnd (fx_cnd (fun _ _ _ _ _ _ _ _ => rfl) fx_no) (fx_cnd (fun _ _ _ _ _ _ _ _ => rfl) fx_no)))
theorem fk_181_11 (X : ez_X) (pc : Nat) : fx_ok X (ft_181_11 X pc) (ez_t181_11 pc) := by
  delta ft_181_11 ez_t181_11
  exact fx_cnd (fx_cnd (fx_cnd (fx_cnd (fun _ _ _ _ _ _ _ _ => rfl) fx_no) (fx_cnd (fun _ _ _ _ _ _ _ _ => rfl) fx_no)) (fx_cnd (fx_cnd (fun _ _ _ _ _ _ _ _ => rfl) fx_no) (fx_cnd (fun _ _ _ _ _ _ _ _ => rfl) fx_no))) (fx_cnd (fx_cnd (fx_cnd (fun _ _ _ _ _ _ _ _ => rfl) fx_no) (fx_cnd (fun _ _ _ _ _ _ _ _ => rfl) fx_no)) (fx_cnd (fx_cnd (fun _ _ _ _ _ _ _ _ => rfl) fx_no) (fx_cnd (fun _ _ _ _ _ _ _ _ => rfl) fx_no)))
theorem fk_181_12 (X : ez_X) (pc : Nat) : fx_ok X (ft_181_12 X pc) (ez_t181_12 pc) := by
  delta ft_181_12 ez_t181_12
  exact fx_cnd (fk_181_10 X pc) (fk_181_11 X pc)
theorem fk_181_13 (X : ez_X) (pc : Nat) : fx_ok X (ft_181_13 X pc) (ez_t181_13 pc) := by
  delta ft_181_13 ez_t181_13
  exact fx_cnd (fk_181_9 X pc) (fk_181_12 X pc)
theorem fk_181_14 (X : ez_X) (pc : Nat) : fx_ok X (ft_181_14 X pc) (ez_t181_14 pc) := by
  delta ft_181_14 ez_t181_14
  exact fx_cnd (fk_181_6 X pc) (fk_181_13 X pc)
theorem fk_181_15 (X : ez_X) (pc : Nat) : fx_ok X (ft_181_15 X pc) (ez_t181_15 pc) := by
  delta ft_181_15 ez_t181_15
  exact fx_cnd (fx_cnd (fx_cnd (fx_cnd (fun _ _ _ _ _ _ _ _ => rfl) fx_no) (fx_cnd (fun _ _ _ _ _ _ _ _ => rfl) fx_no)) (fx_cnd (fx_cnd (fun _ _ _ _ _ _ _ _ => rfl) fx_no) (fx_cnd (fun _ _ _ _ _ _ _ _ => rfl) fx_no))) (fx_cnd (fx_cnd (fx_cnd (fun _ _ _ _ _ _ _ _ => rfl) fx_no) (fx_cnd (fun _ _ _ _ _ _ _ _ => rfl) fx_no)) (fx_cnd (fx_cnd (fun _ _ _ _ _ _ _ _ => rfl) fx_no) (fx_cnd (fun _ _ _ _ _ _ _ _ => rfl) fx_no)))
theorem fk_181_16 (X : ez_X) (pc : Nat) : fx_ok X (ft_181_16 X pc) (ez_t181_16 pc) := by
  delta ft_181_16 ez_t181_16
  exact fx_cnd (fx_cnd (fx_cnd (fx_cnd (fun _ _ _ _ _ _ _ _ => rfl) fx_no) (fx_cnd (fun _ _ _ _ _ _ _ _ => rfl) fx_no)) (fx_cnd (fx_cnd (fun _ _ _ _ _ _ _ _ => rfl) fx_no) (fx_cnd (fun _ _ _ _ _ _ _ _ => rfl) fx_no))) (fx_cnd (fx_cnd (fx_cnd (fun _ _ _ _ _ _ _ _ => rfl) fx_no) (fx_cnd (fun _ _ _ _ _ _ _ _ => rfl) fx_no)) (fx_cnd (fx_cnd (fun _ _ _ _ _ _ _ _ => rfl) fx_no) (fx_cnd (fun _ _ _ _ _ _ _ _ => rfl) fx_no)))
theorem fk_181_17 (X : ez_X) (pc : Nat) : fx_ok X (ft_181_17 X pc) (ez_t181_17 pc) := by
  delta ft_181_17 ez_t181_17
  exact fx_cnd (fk_181_15 X pc) (fk_181_16 X pc)
theorem fk_181_18 (X : ez_X) (pc : Nat) : fx_ok X (ft_181_18 X pc) (ez_t181_18 pc) := by
  delta ft_181_18 ez_t181_18
  exact fx_cnd (fx_cnd (fx_cnd (fx_cnd (fun _ _ _ _ _ _ _ _ => rfl) fx_no) (fx_cnd (fun _ _ _ _ _ _ _ _ => rfl) fx_no)) (fx_cnd (fx_cnd (fun _ _ _ _ _ _ _ _ => rfl) fx_no) (fx_cnd (fun _ _ _ _ _ _ _ _ => rfl) fx_no))) (fx_cnd (fx_cnd (fx_cnd (fun _ _ _ _ _ _ _ _ => rfl) fx_no) (fx_cnd (fun _ _ _ _ _ _ _ _ => rfl) fx_no)) (fx_cnd (fx_cnd (fun _ _ _ _ _ _ _ _ => rfl) fx_no) (fx_cnd (fun _ _ _ _ _ _ _ _ => rfl) fx_no)))
theorem fk_181_19 (X : ez_X) (pc : Nat) : fx_ok X (ft_181_19 X pc) (ez_t181_19 pc) := by
  delta ft_181_19 ez_t181_19
  exact fx_cnd (fx_cnd (fx_cnd (fx_cnd (fun _ _ _ _ _ _ _ _ => rfl) fx_no) (fx_cnd (fun _ _ _ _ _ _ _ _ => rfl) fx_no)) (fx_cnd (fx_cnd (fun _ _ _ _ _ _ _ _ => rfl) fx_no) (fx_cnd (fun _ _ _ _ _ _ _ _ => rfl) fx_no))) (fx_cnd (fx_cnd (fx_cnd (fun _ _ _ _ _ _ _ _ => rfl) fx_no) (fx_cnd (fun _ _ _ _ _ _ _ _ => rfl) fx_no)) (fx_cnd (fx_cnd (fun _ _ _ _ _ _ _ _ => rfl) fx_no) (fx_cnd (fun _ _ _ _ _ _ _ _ => rfl) fx_no)))
theorem fk_181_20 (X : ez_X) (pc : Nat) : fx_ok X (ft_181_20 X pc) (ez_t181_20 pc) := by
  delta ft_181_20 ez_t181_20
  exact fx_cnd (fk_181_18 X pc) (fk_181_19 X pc)
theorem fk_181_21 (X : ez_X) (pc : Nat) : fx_ok X (ft_181_21 X pc) (ez_t181_21 pc) := by
  delta ft_181_21 ez_t181_21
  exact fx_cnd (fk_181_17 X pc) (fk_181_20 X pc)
theorem fk_181_22 (X : ez_X) (pc : Nat) : fx_ok X (ft_181_22 X pc) (ez_t181_22 pc) := by
  delta ft_181_22 ez_t181_22
  exact fx_cnd (fx_cnd (fx_cnd (fx_cnd (fun _ _ _ _ _ _ _ _ => rfl) fx_no) (fx_cnd (fun _ _ _ _ _ _ _ _ => rfl) fx_no)) (fx_cnd (fx_cnd (fun _ _ _ _ _ _ _ _ => rfl) fx_no) (fx_cnd (fun _ _ _ _ _ _ _ _ => rfl) fx_no))) (fx_cnd (fx_cnd (fx_cnd (fun _ _ _ _ _ _ _ _ => rfl) fx_no) (fx_cnd (fun _ _ _ _ _ _ _ _ => rfl) fx_no)) (fx_cnd (fx_cnd (fun _ _ _ _ _ _ _ _ => rfl) fx_no) (fx_cnd (fun _ _ _ _ _ _ _ _ => rfl) fx_no)))
theorem fk_181_23 (X : ez_X) (pc : Nat) : fx_ok X (ft_181_23 X pc) (ez_t181_23 pc) := by
  delta ft_181_23 ez_t181_23
  exact fx_cnd (fx_cnd (fx_cnd (fx_cnd (fun _ _ _ _ _ _ _ _ => rfl) fx_no) (fx_cnd (fun _ _ _ _ _ _ _ _ => rfl) fx_no)) (fx_cnd (fx_cnd (fun _ _ _ _ _ _ _ _ => rfl) fx_no) (fx_cnd (fun _ _ _ _ _ _ _ _ => rfl) fx_no))) (fx_cnd (fx_cnd (fx_cnd (fun _ _ _ _ _ _ _ _ => rfl) fx_no) (fx_cnd (fun _ _ _ _ _ _ _ _ => rfl) fx_no)) (fx_cnd (fx_cnd (fun _ _ _ _ _ _ _ _ => rfl) fx_no) (fx_cnd (fun _ _ _ _ _ _ _ _ => rfl) fx_no)))
theorem fk_181_24 (X : ez_X) (pc : Nat) : fx_ok X (ft_181_24 X pc) (ez_t181_24 pc) := by
  delta ft_181_24 ez_t181_24
  exact fx_cnd (fk_181_22 X pc) (fk_181_23 X pc)
theorem fk_181_25 (X : ez_X) (pc : Nat) : fx_ok X (ft_181_25 X pc) (ez_t181_25 pc) := by
  delta ft_181_25 ez_t181_25
  exact fx_cnd (fx_cnd (fx_cnd (fx_cnd (fun _ _ _ _ _ _ _ _ => rfl) fx_no) (fx_cnd (fun _ _ _ _ _ _ _ _ => rfl) fx_no)) (fx_cnd (fx_cnd (fun _ _ _ _ _ _ _ _ => rfl) fx_no) (fx_cnd (fun _ _ _ _ _ _ _ _ => rfl) fx_no))) (fx_cnd (fx_cnd (fx_cnd (fun _ _ _ _ _ _ _ _ => rfl) fx_no) (fx_cnd (fun _ _ _ _ _ _ _ _ => rfl) fx_no)) (fx_cnd (fx_cnd (fun _ _ _ _ _ _ _ _ => rfl) fx_no) (fx_cnd (fun _ _ _ _ _ _ _ _ => rfl) fx_no)))
theorem fk_181_26 (X : ez_X) (pc : Nat) : fx_ok X (ft_181_26 X pc) (ez_t181_26 pc) := by
  delta ft_181_26 ez_t181_26
  exact fx_cnd (fx_cnd (fx_cnd (fx_cnd (fun _ _ _ _ _ _ _ _ => rfl) fx_no) (fx_cnd (fun _ _ _ _ _ _ _ _ => rfl) fx_no)) (fx_cnd (fx_cnd (fun _ _ _ _ _ _ _ _ => rfl) fx_no) (fx_cnd (fun _ _ _ _ _ _ _ _ => rfl) fx_no))) (fx_cnd (fx_cnd (fx_cnd (fun _ _ _ _ _ _ _ _ => rfl) fx_no) (fx_cnd (fun _ _ _ _ _ _ _ _ => rfl) fx_no)) (fx_cnd (fx_cnd (fun _ _ _ _ _ _ _ _ => rfl) fx_no) (fx_cnd (fun _ _ _ _ _ _ _ _ => rfl) fx_no)))
theorem fk_181_27 (X : ez_X) (pc : Nat) : fx_ok X (ft_181_27 X pc) (ez_t181_27 pc) := by
  delta ft_181_27 ez_t181_27
  exact fx_cnd (fk_181_25 X pc) (fk_181_26 X pc)
theorem fk_181_28 (X : ez_X) (pc : Nat) : fx_ok X (ft_181_28 X pc) (ez_t181_28 pc) := by
  delta ft_181_28 ez_t181_28
  exact fx_cnd (fk_181_24 X pc) (fk_181_27 X pc)
theorem fk_181_29 (X : ez_X) (pc : Nat) : fx_ok X (ft_181_29 X pc) (ez_t181_29 pc) := by
  delta ft_181_29 ez_t181_29
  exact fx_cnd (fk_181_21 X pc) (fk_181_28 X pc)
theorem fk_181 (X : ez_X) (pc : Nat) : fx_ok X (ft_181 X pc) (ez_t181 pc) := by
  delta ft_181 ez_t181
  exact fx_cnd (fk_181_14 X pc) (fk_181_29 X pc)
theorem fk_182_0 (X : ez_X) (pc : Nat) : fx_ok X (ft_182_0 X pc) (ez_t182_0 pc) := by
  delta ft_182_0 ez_t182_0
  exact fx_cnd (fx_cnd (fx_cnd (fun _ _ _ _ _ _ _ _ => rfl) fx_no) (fx_cnd (fx_cnd (fun _ _ _ _ _ _ _ _ => rfl) fx_no) (fx_cnd (fun _ _ _ _ _ _ _ _ => rfl) fx_no))) (fx_cnd (fx_cnd (fx_cnd (fun _ _ _ _ _ _ _ _ => rfl) fx_no) (fx_cnd (fun _ _ _ _ _ _ _ _ => rfl) fx_no)) (fx_cnd (fx_cnd (fun _ _ _ _ _ _ _ _ => rfl) fx_no) (fx_cnd (fun _ _ _ _ _ _ _ _ => rfl) fx_no)))
theorem fk_182_1 (X : ez_X) (pc : Nat) : fx_ok X (ft_182_1 X pc) (ez_t182_1 pc) := by
  delta ft_182_1 ez_t182_1
  exact fx_cnd (fx_cnd (fx_cnd (fx_cnd (fun _ _ _ _ _ _ _ _ => rfl) fx_no) (fx_cnd (fun _ _ _ _ _ _ _ _ => rfl) fx_no)) (fx_cnd (fx_cnd (fun _ _ _ _ _ _ _ _ => rfl) fx_no) (fx_cnd (fun _ _ _ _ _ _ _ _ => rfl) fx_no))) (fx_cnd (fx_cnd (fx_cnd (fun _ _ _ _ _ _ _ _ => rfl) fx_no) (fx_cnd (fun _ _ _ _ _ _ _ _ => rfl) fx_no)) (fx_cnd (fx_cnd (fun _ _ _ _ _ _ _ _ => rfl) fx_no) (fx_cnd (fun _ _ _ _ _ _ _ _ => rfl) fx_no)))
theorem fk_182_2 (X : ez_X) (pc : Nat) : fx_ok X (ft_182_2 X pc) (ez_t182_2 pc) := by
  delta ft_182_2 ez_t182_2
  exact fx_cnd (fk_182_0 X pc) (fk_182_1 X pc)
theorem fk_182_3 (X : ez_X) (pc : Nat) : fx_ok X (ft_182_3 X pc) (ez_t182_3 pc) := by
  delta ft_182_3 ez_t182_3
  exact fx_cnd (fx_cnd (fx_cnd (fx_cnd (fun _ _ _ _ _ _ _ _ => rfl) fx_no) (fx_cnd (fun _ _ _ _ _ _ _ _ => rfl) fx_no)) (fx_cnd (fx_cnd (fun _ _ _ _ _ _ _ _ => rfl) fx_no) (fx_cnd (fun _ _ _ _ _ _ _ _ => rfl) fx_no))) (fx_cnd (fx_cnd (fx_cnd (fun _ _ _ _ _ _ _ _ => rfl) fx_no) (fx_cnd (fun _ _ _ _ _ _ _ _ => rfl) fx_no)) (fx_cnd (fx_cnd (fun _ _ _ _ _ _ _ _ => rfl) fx_no) (fx_cnd (fun _ _ _ _ _ _ _ _ => rfl) fx_no)))
theorem fk_182_4 (X : ez_X) (pc : Nat) : fx_ok X (ft_182_4 X pc) (ez_t182_4 pc) := by
  delta ft_182_4 ez_t182_4
  exact fx_cnd (fx_cnd (fx_cnd (fx_cnd (fun _ _ _ _ _ _ _ _ => rfl) fx_no) (fx_cnd (fun _ _ _ _ _ _ _ _ => rfl) fx_no)) (fx_cnd (fx_cnd (fun _ _ _ _ _ _ _ _ => rfl) fx_no) (fx_cnd (fun _ _ _ _ _ _ _ _ => rfl) fx_no))) (fx_cnd (fx_cnd (fx_cnd (fun _ _ _ _ _ _ _ _ => rfl) fx_no) (fx_cnd (fun _ _ _ _ _ _ _ _ => rfl) fx_no)) (fx_cnd (fx_cnd (fun _ _ _ _ _ _ _ _ => rfl) fx_no) (fx_cnd (fun _ _ _ _ _ _ _ _ => rfl) fx_no)))
theorem fk_182_5 (X : ez_X) (pc : Nat) : fx_ok X (ft_182_5 X pc) (ez_t182_5 pc) := by
  delta ft_182_5 ez_t182_5
  exact fx_cnd (fk_182_3 X pc) (fk_182_4 X pc)
theorem fk_182 (X : ez_X) (pc : Nat) : fx_ok X (ft_182 X pc) (ez_t182 pc) := by
  delta ft_182 ez_t182
  exact fx_cnd (fk_182_2 X pc) (fk_182_5 X pc)
theorem fk_183_0 (X : ez_X) (pc : Nat) : fx_ok X (ft_183_0 X pc) (ez_t183_0 pc) := by
  delta ft_183_0 ez_t183_0
  exact fx_cnd (fx_cnd (fx_cnd (fx_cnd (fun _ _ _ _ _ _ _ _ => rfl) fx_no) (fx_cnd (fx_cnd (fun _ _ _ _ _ _ _ _ => rfl) fx_no) (fx_cnd (fun _ _ _ _ _ _ _ _ => rfl) fx_no))) (fx_cnd (fx_cnd (fun _ _ _ _ _ _ _ _ => rfl) fx_no) (fx_cnd (fx_cnd (fun _ _ _ _ _ _ _ _ => rfl) fx_no) (fx_cnd (fun _ _ _ _ _ _ _ _ => rfl) fx_no)))) (fx_cnd (fx_cnd (fx_cnd (fun _ _ _ _ _ _ _ _ => rfl) fx_no) (fx_cnd (fx_cnd (fun _ _ _ _ _ _ _ _ => rfl) fx_no) (fx_cnd (fun _ _ _ _ _ _ _ _ => rfl) fx_no))) (fx_cnd (fx_cnd (fun _ _ _ _ _ _ _ _ => rfl) fx_no) (fx_cnd (fx_cnd (fun _ _ _ _ _ _ _ _ => rfl) fx_no) (fx_cnd (fun _ _ _ _ _ _ _ _ => rfl) fx_no))))
theorem fk_183_1 (X : ez_X) (pc : Nat) : fx_ok X (ft_183_1 X pc) (ez_t183_1 pc) := by
  delta ft_183_1 ez_t183_1
  exact fx_cnd (fx_cnd (fx_cnd (fun _ _ _ _ _ _ _ _ => rfl) fx_no) (fx_cnd (fx_cnd (fun _ _ _ _ _ _ _ _ => rfl) fx_no) (fx_cnd (fun _ _ _ _ _ _ _ _ => rfl) fx_no))) (fx_cnd (fx_cnd (fun _ _ _ _ _ _ _ _ => rfl) fx_no) (fx_cnd (fx_cnd (fun _ _ _ _ _ _ _ _ => rfl) fx_no) (fx_cnd (fun _ _ _ _ _ _ _ _ => rfl) fx_no)))
theorem fk_183_2 (X : ez_X) (pc : Nat) : fx_ok X (ft_183_2 X pc) (ez_t183_2 pc) := by
  delta ft_183_2 ez_t183_2
  exact fx_cnd (fx_cnd (fx_cnd (fun _ _ _ _ _ _ _ _ => rfl) fx_no) (fx_cnd (fx_cnd (fun _ _ _ _ _ _ _ _ => rfl) fx_no) (fx_cnd (fun _ _ _ _ _ _ _ _ => rfl) fx_no))) (fx_cnd (fx_cnd (fx_cnd (fun _ _ _ _ _ _ _ _ => rfl) fx_no) (fx_cnd (fun _ _ _ _ _ _ _ _ => rfl) fx_no)) (fx_cnd (fx_cnd (fun _ _ _ _ _ _ _ _ => rfl) fx_no) (fx_cnd (fun _ _ _ _ _ _ _ _ => rfl) fx_no)))
theorem fk_183_3 (X : ez_X) (pc : Nat) : fx_ok X (ft_183_3 X pc) (ez_t183_3 pc) := by
  delta ft_183_3 ez_t183_3
  exact fx_cnd (fk_183_1 X pc) (fk_183_2 X pc)
theorem fk_183_4 (X : ez_X) (pc : Nat) : fx_ok X (ft_183_4 X pc) (ez_t183_4 pc) := by
  delta ft_183_4 ez_t183_4
  exact fx_cnd (fk_183_0 X pc) (fk_183_3 X pc)
theorem fk_183_5 (X : ez_X) (pc : Nat) : fx_ok X (ft_183_5 X pc) (ez_t183_5 pc) := by
  delta ft_183_5 ez_t183_5
  exact fx_cnd (fx_cnd (fx_cnd (fun _ _ _ _ _ _ _ _ => rfl) fx_no) (fx_cnd (fx_cnd (fun _ _ _ _ _ _ _ _ => rfl) fx_no) (fx_cnd (fun _ _ _ _ _ _ _ _ => rfl) fx_no))) (fx_cnd (fx_cnd (fun _ _ _ _ _ _ _ _ => rfl) fx_no) (fx_cnd (fx_cnd (fun _ _ _ _ _ _ _ _ => rfl) fx_no) (fx_cnd (fun _ _ _ _ _ _ _ _ => rfl) fx_no)))
theorem fk_183_6 (X : ez_X) (pc : Nat) : fx_ok X (ft_183_6 X pc) (ez_t183_6 pc) := by
  delta ft_183_6 ez_t183_6
  exact fx_cnd (fx_cnd (fx_cnd (fun _ _ _ _ _ _ _ _ => rfl) fx_no) (fx_cnd (fx_cnd (fun _ _ _ _ _ _ _ _ => rfl) fx_no) (fx_cnd (fun _ _ _ _ _ _ _ _ => rfl) fx_no))) (fx_cnd (fx_cnd (fx_cnd (fun _ _ _ _ _ _ _ _ => rfl) fx_no) (fx_cnd (fun _ _ _ _ _ _ _ _ => rfl) fx_no)) (fx_cnd (fx_cnd (fun _ _ _ _ _ _ _ _ => rfl) fx_no) (fx_cnd (fun _ _ _ _ _ _ _ _ => rfl) fx_no)))
theorem fk_183_7 (X : ez_X) (pc : Nat) : fx_ok X (ft_183_7 X pc) (ez_t183_7 pc) := by
  delta ft_183_7 ez_t183_7
  exact fx_cnd (fk_183_5 X pc) (fk_183_6 X pc)
theorem fk_183_8 (X : ez_X) (pc : Nat) : fx_ok X (ft_183_8 X pc) (ez_t183_8 pc) := by
  delta ft_183_8 ez_t183_8
  exact fx_cnd (fx_cnd (fx_cnd (fun _ _ _ _ _ _ _ _ => rfl) fx_no) (fx_cnd (fx_cnd (fun _ _ _ _ _ _ _ _ => rfl) fx_no) (fx_cnd (fun _ _ _ _ _ _ _ _ => rfl) fx_no))) (fx_cnd (fx_cnd (fun _ _ _ _ _ _ _ _ => rfl) fx_no) (fx_cnd (fx_cnd (fun _ _ _ _ _ _ _ _ => rfl) fx_no) (fx_cnd (fun _ _ _ _ _ _ _ _ => rfl) fx_no)))
theorem fk_183_9 (X : ez_X) (pc : Nat) : fx_ok X (ft_183_9 X pc) (ez_t183_9 pc) := by
  delta ft_183_9 ez_t183_9
  exact fx_cnd (fx_cnd (fx_cnd (fun _ _ _ _ _ _ _ _ => rfl) fx_no) (fx_cnd (fx_cnd (fun _ _ _ _ _ _ _ _ => rfl) fx_no) (fx_cnd (fun _ _ _ _ _ _ _ _ => rfl) fx_no))) (fx_cnd (fx_cnd (fx_cnd (fun _ _ _ _ _ _ _ _ => rfl) fx_no) (fx_cnd (fun _ _ _ _ _ _ _ _ => rfl) fx_no)) (fx_cnd (fx_cnd (fun _ _ _ _ _ _ _ _ => rfl) fx_no) (fx_cnd (fun _ _ _ _ _ _ _ _ => rfl) fx_no)))
theorem fk_183_10 (X : ez_X) (pc : Nat) : fx_ok X (ft_183_10 X pc) (ez_t183_10 pc) := by
  delta ft_183_10 ez_t183_10
  exact fx_cnd (fk_183_8 X pc) (fk_183_9 X pc)
theorem fk_183_11 (X : ez_X) (pc : Nat) : fx_ok X (ft_183_11 X pc) (ez_t183_11 pc) := by
  delta ft_183_11 ez_t183_11
  exact fx_cnd (fk_183_7 X pc) (fk_183_10 X pc)
theorem fk_183 (X : ez_X) (pc : Nat) : fx_ok X (ft_183 X pc) (ez_t183 pc) := by
  delta ft_183 ez_t183
  exact fx_cnd (fk_183_4 X pc) (fk_183_11 X pc)
theorem fk_184_0 (X : ez_X) (pc : Nat) : fx_ok X (ft_184_0 X pc) (ez_t184_0 pc) := by
  delta ft_184_0 ez_t184_0
  exact fx_cnd (fx_cnd (fx_cnd (fun _ _ _ _ _ _ _ _ => rfl) fx_no) (fx_cnd (fx_cnd (fun _ _ _ _ _ _ _ _ => rfl) fx_no) (fx_cnd (fun _ _ _ _ _ _ _ _ => rfl) fx_no))) (fx_cnd (fx_cnd (fx_cnd (fun _ _ _ _ _ _ _ _ => rfl) fx_no) (fx_cnd (fun _ _ _ _ _ _ _ _ => rfl) fx_no)) (fx_cnd (fx_cnd (fun _ _ _ _ _ _ _ _ => rfl) fx_no) (fx_cnd (fun _ _ _ _ _ _ _ _ => rfl) fx_no)))
theorem fk_184_1 (X : ez_X) (pc : Nat) : fx_ok X (ft_184_1 X pc) (ez_t184_1 pc) := by
  delta ft_184_1 ez_t184_1
  exact fx_cnd (fx_cnd (fx_cnd (fun _ _ _ _ _ _ _ _ => rfl) fx_no) (fx_cnd (fx_cnd (fun _ _ _ _ _ _ _ _ => rfl) fx_no) (fx_cnd (fun _ _ _ _ _ _ _ _ => rfl) fx_no))) (fx_cnd (fx_cnd (fx_cnd (fun _ _ _ _ _ _ _ _ => rfl) fx_no) (fx_cnd (fun _ _ _ _ _ _ _ _ => rfl) fx_no)) (fx_cnd (fx_cnd (fun _ _ _ _ _ _ _ _ => rfl) fx_no) (fx_cnd (fun _ _ _ _ _ _ _ _ => rfl) fx_no)))
theorem fk_184_2 (X : ez_X) (pc : Nat) : fx_ok X (ft_184_2 X pc) (ez_t184_2 pc) := by
  delta ft_184_2 ez_t184_2
  exact fx_cnd (fk_184_0 X pc) (fk_184_1 X pc)
theorem fk_184_3 (X : ez_X) (pc : Nat) : fx_ok X (ft_184_3 X pc) (ez_t184_3 pc) := by
  delta ft_184_3 ez_t184_3
  exact fx_cnd (fx_cnd (fx_cnd (fun _ _ _ _ _ _ _ _ => rfl) fx_no) (fx_cnd (fx_cnd (fun _ _ _ _ _ _ _ _ => rfl) fx_no) (fx_cnd (fun _ _ _ _ _ _ _ _ => rfl) fx_no))) (fx_cnd (fx_cnd (fx_cnd (fun _ _ _ _ _ _ _ _ => rfl) fx_no) (fx_cnd (fun _ _ _ _ _ _ _ _ => rfl) fx_no)) (fx_cnd (fx_cnd (fun _ _ _ _ _ _ _ _ => rfl) fx_no) (fx_cnd (fun _ _ _ _ _ _ _ _ => rfl) fx_no)))
theorem fk_184_4 (X : ez_X) (pc : Nat) : fx_ok X (ft_184_4 X pc) (ez_t184_4 pc) := by
  delta ft_184_4 ez_t184_4
  exact fx_cnd (fx_cnd (fx_cnd (fun _ _ _ _ _ _ _ _ => rfl) fx_no) (fx_cnd (fx_cnd (fun _ _ _ _ _ _ _ _ => rfl) fx_no) (fx_cnd (fun _ _ _ _ _ _ _ _ => rfl) fx_no))) (fx_cnd (fx_cnd (fx_cnd (fun _ _ _ _ _ _ _ _ => rfl) fx_no) (fx_cnd (fun _ _ _ _ _ _ _ _ => rfl) fx_no)) (fx_cnd (fx_cnd (fun _ _ _ _ _ _ _ _ => rfl) fx_no) (fx_cnd (fun _ _ _ _ _ _ _ _ => rfl) fx_no)))
theorem fk_184_5 (X : ez_X) (pc : Nat) : fx_ok X (ft_184_5 X pc) (ez_t184_5 pc) := by
  delta ft_184_5 ez_t184_5
  exact fx_cnd (fk_184_3 X pc) (fk_184_4 X pc)
theorem fk_184_6 (X : ez_X) (pc : Nat) : fx_ok X (ft_184_6 X pc) (ez_t184_6 pc) := by
  delta ft_184_6 ez_t184_6
  exact fx_cnd (fk_184_2 X pc) (fk_184_5 X pc)
theorem fk_184_7 (X : ez_X) (pc : Nat) : fx_ok X (ft_184_7 X pc) (ez_t184_7 pc) := by
  delta ft_184_7 ez_t184_7
  exact fx_cnd (fx_cnd (fx_cnd (fun _ _ _ _ _ _ _ _ => rfl) fx_no) (fx_cnd (fx_cnd (fun _ _ _ _ _ _ _ _ => rfl) fx_no) (fx_cnd (fun _ _ _ _ _ _ _ _ => rfl) fx_no))) (fx_cnd (fx_cnd (fx_cnd (fun _ _ _ _ _ _ _ _ => rfl) fx_no) (fx_cnd (fun _ _ _ _ _ _ _ _ => rfl) fx_no)) (fx_cnd (fx_cnd (fun _ _ _ _ _ _ _ _ => rfl) fx_no) (fx_cnd (fun _ _ _ _ _ _ _ _ => rfl) fx_no)))
theorem fk_184_8 (X : ez_X) (pc : Nat) : fx_ok X (ft_184_8 X pc) (ez_t184_8 pc) := by
  delta ft_184_8 ez_t184_8
  exact fx_cnd (fx_cnd (fx_cnd (fun _ _ _ _ _ _ _ _ => rfl) fx_no) (fx_cnd (fx_cnd (fun _ _ _ _ _ _ _ _ => rfl) fx_no) (fx_cnd (fun _ _ _ _ _ _ _ _ => rfl) fx_no))) (fx_cnd (fx_cnd (fx_cnd (fun _ _ _ _ _ _ _ _ => rfl) fx_no) (fx_cnd (fun _ _ _ _ _ _ _ _ => rfl) fx_no)) (fx_cnd (fx_cnd (fun _ _ _ _ _ _ _ _ => rfl) fx_no) (fx_cnd (fun _ _ _ _ _ _ _ _ => rfl) fx_no)))
theorem fk_184_9 (X : ez_X) (pc : Nat) : fx_ok X (ft_184_9 X pc) (ez_t184_9 pc) := by
  delta ft_184_9 ez_t184_9
  exact fx_cnd (fk_184_7 X pc) (fk_184_8 X pc)
theorem fk_184_10 (X : ez_X) (pc : Nat) : fx_ok X (ft_184_10 X pc) (ez_t184_10 pc) := by
  delta ft_184_10 ez_t184_10
  exact fx_cnd (fx_cnd (fx_cnd (fun _ _ _ _ _ _ _ _ => rfl) fx_no) (fx_cnd (fx_cnd (fun _ _ _ _ _ _ _ _ => rfl) fx_no) (fx_cnd (fun _ _ _ _ _ _ _ _ => rfl) fx_no))) (fx_cnd (fx_cnd (fx_cnd (fun _ _ _ _ _ _ _ _ => rfl) fx_no) (fx_cnd (fun _ _ _ _ _ _ _ _ => rfl) fx_no)) (fx_cnd (fx_cnd (fun _ _ _ _ _ _ _ _ => rfl) fx_no) (fx_cnd (fun _ _ _ _ _ _ _ _ => rfl) fx_no)))
theorem fk_184_11 (X : ez_X) (pc : Nat) : fx_ok X (ft_184_11 X pc) (ez_t184_11 pc) := by
  delta ft_184_11 ez_t184_11
  exact fx_cnd (fx_cnd (fx_cnd (fx_cnd (fun _ _ _ _ _ _ _ _ => rfl) fx_no) (fx_cnd (fun _ _ _ _ _ _ _ _ => rfl) fx_no)) (fx_cnd (fx_cnd (fun _ _ _ _ _ _ _ _ => rfl) fx_no) (fx_cnd (fun _ _ _ _ _ _ _ _ => rfl) fx_no))) (fx_cnd (fx_cnd (fx_cnd (fun _ _ _ _ _ _ _ _ => rfl) fx_no) (fx_cnd (fun _ _ _ _ _ _ _ _ => rfl) fx_no)) (fx_cnd (fx_cnd (fun _ _ _ _ _ _ _ _ => rfl) fx_no) (fx_cnd (fun _ _ _ _ _ _ _ _ => rfl) fx_no)))
theorem fk_184_12 (X : ez_X) (pc : Nat) : fx_ok X (ft_184_12 X pc) (ez_t184_12 pc) := by
  delta ft_184_12 ez_t184_12
  exact fx_cnd (fk_184_10 X pc) (fk_184_11 X pc)
theorem fk_184_13 (X : ez_X) (pc : Nat) : fx_ok X (ft_184_13 X pc) (ez_t184_13 pc) := by
  delta ft_184_13 ez_t184_13
  exact fx_cnd (fk_184_9 X pc) (fk_184_12 X pc)
theorem fk_184 (X : ez_X) (pc : Nat) : fx_ok X (ft_184 X pc) (ez_t184 pc) := by
  delta ft_184 ez_t184
  exact fx_cnd (fk_184_6 X pc) (fk_184_13 X pc)
theorem fk_185_0 (X : ez_X) (pc : Nat) : fx_ok X (ft_185_0 X pc) (ez_t185_0 pc) := by
  delta ft_185_0 ez_t185_0
  exact fx_cnd (fx_cnd (fx_cnd (fun _ _ _ _ _ _ _ _ => rfl) fx_no) (fx_cnd (fx_cnd (fun _ _ _ _ _ _ _ _ => rfl) fx_no) (fx_cnd (fun _ _ _ _ _ _ _ _ => rfl) fx_no))) (fx_cnd (fx_cnd (fun _ _ _ _ _ _ _ _ => rfl) fx_no) (fx_cnd (fx_cnd (fun _ _ _ _ _ _ _ _ => rfl) fx_no) (fx_cnd (fun _ _ _ _ _ _ _ _ => rfl) fx_no)))
theorem fk_185_1 (X : ez_X) (pc : Nat) : fx_ok X (ft_185_1 X pc) (ez_t185_1 pc) := by
  delta ft_185_1 ez_t185_1
  exact fx_cnd (fx_cnd (fx_cnd (fun _ _ _ _ _ _ _ _ => rfl) fx_no) (fx_cnd (fx_cnd (fun _ _ _ _ _ _ _ _ => rfl) fx_no) (fx_cnd (fun _ _ _ _ _ _ _ _ => rfl) fx_no))) (fx_cnd (fx_cnd (fx_cnd (fun _ _ _ _ _ _ _ _ => rfl) fx_no) (fx_cnd (fun _ _ _ _ _ _ _ _ => rfl) fx_no)) (fx_cnd (fx_cnd (fun _ _ _ _ _ _ _ _ => rfl) fx_no) (fx_cnd (fun _ _ _ _ _ _ _ _ => rfl) fx_no)))
theorem fk_185_2 (X : ez_X) (pc : Nat) : fx_ok X (ft_185_2 X pc) (ez_t185_2 pc) := by
  delta ft_185_2 ez_t185_2
  exact fx_cnd (fk_185_0 X pc) (fk_185_1 X pc)
theorem fk_185_3 (X : ez_X) (pc : Nat) : fx_ok X (ft_185_3 X pc) (ez_t185_3 pc) := by
  delta ft_185_3 ez_t185_3
  exact fx_cnd (fx_cnd (fx_cnd (fun _ _ _ _ _ _ _ _ => rfl) fx_no) (fx_cnd (fx_cnd (fun _ _ _ _ _ _ _ _ => rfl) fx_no) (fx_cnd (fun _ _ _ _ _ _ _ _ => rfl) fx_no))) (fx_cnd (fx_cnd (fx_cnd (fun _ _ _ _ _ _ _ _ => rfl) fx_no) (fx_cnd (fun _ _ _ _ _ _ _ _ => rfl) fx_no)) (fx_cnd (fx_cnd (fun _ _ _ _ _ _ _ _ => rfl) fx_no) (fx_cnd (fun _ _ _ _ _ _ _ _ => rfl) fx_no)))
theorem fk_185_4 (X : ez_X) (pc : Nat) : fx_ok X (ft_185_4 X pc) (ez_t185_4 pc) := by
  delta ft_185_4 ez_t185_4
  exact fx_cnd (fx_cnd (fx_cnd (fun _ _ _ _ _ _ _ _ => rfl) fx_no) (fx_cnd (fx_cnd (fun _ _ _ _ _ _ _ _ => rfl) fx_no) (fx_cnd (fun _ _ _ _ _ _ _ _ => rfl) fx_no))) (fx_cnd (fx_cnd (fx_cnd (fun _ _ _ _ _ _ _ _ => rfl) fx_no) (fx_cnd (fun _ _ _ _ _ _ _ _ => rfl) fx_no)) (fx_cnd (fx_cnd (fun _ _ _ _ _ _ _ _ => rfl) fx_no) (fx_cnd (fun _ _ _ _ _ _ _ _ => rfl) fx_no)))
theorem fk_185_5 (X : ez_X) (pc : Nat) : fx_ok X (ft_185_5 X pc) (ez_t185_5 pc) := by
  delta ft_185_5 ez_t185_5
  exact fx_cnd (fk_185_3 X pc) (fk_185_4 X pc)
theorem fk_185 (X : ez_X) (pc : Nat) : fx_ok X (ft_185 X pc) (ez_t185 pc) := by
  delta ft_185 ez_t185
  exact fx_cnd (fk_185_2 X pc) (fk_185_5 X pc)
theorem fk_186_0 (X : ez_X) (pc : Nat) : fx_ok X (ft_186_0 X pc) (ez_t186_0 pc) := by
  delta ft_186_0 ez_t186_0
  exact fx_cnd (fx_cnd (fx_cnd (fx_cnd (fun _ _ _ _ _ _ _ _ => rfl) fx_no) (fx_cnd (fun _ _ _ _ _ _ _ _ => rfl) fx_no)) (fx_cnd (fx_cnd (fun _ _ _ _ _ _ _ _ => rfl) fx_no) (fx_cnd (fx_cnd (fun _ _ _ _ _ _ _ _ => rfl) fx_no) (fx_cnd (fun _ _ _ _ _ _ _ _ => rfl) fx_no)))) (fx_cnd (fx_cnd (fx_cnd (fun _ _ _ _ _ _ _ _ => rfl) fx_no) (fx_cnd (fun _ _ _ _ _ _ _ _ => rfl) fx_no)) (fx_cnd (fx_cnd (fun _ _ _ _ _ _ _ _ => rfl) fx_no) (fx_cnd (fx_cnd (fun _ _ _ _ _ _ _ _ => rfl) fx_no) (fx_cnd (fun _ _ _ _ _ _ _ _ => rfl) fx_no))))
theorem fk_186_1 (X : ez_X) (pc : Nat) : fx_ok X (ft_186_1 X pc) (ez_t186_1 pc) := by
  delta ft_186_1 ez_t186_1
  exact fx_cnd (fx_cnd (fx_cnd (fx_cnd (fun _ _ _ _ _ _ _ _ => rfl) fx_no) (fx_cnd (fun _ _ _ _ _ _ _ _ => rfl) fx_no)) (fx_cnd (fx_cnd (fun _ _ _ _ _ _ _ _ => rfl) fx_no) (fx_cnd (fx_cnd (fun _ _ _ _ _ _ _ _ => rfl) fx_no) (fx_cnd (fun _ _ _ _ _ _ _ _ => rfl) fx_no)))) (fx_cnd (fx_cnd (fx_cnd (fun _ _ _ _ _ _ _ _ => rfl) fx_no) (fx_cnd (fun _ _ _ _ _ _ _ _ => rfl) fx_no)) (fx_cnd (fx_cnd (fun _ _ _ _ _ _ _ _ => rfl) fx_no) (fx_cnd (fx_cnd (fun _ _ _ _ _ _ _ _ => rfl) fx_no) (fx_cnd (fun _ _ _ _ _ _ _ _ => rfl) fx_no))))
theorem fk_186_2 (X : ez_X) (pc : Nat) : fx_ok X (ft_186_2 X pc) (ez_t186_2 pc) := by
  delta ft_186_2 ez_t186_2
  exact fx_cnd (fk_186_0 X pc) (fk_186_1 X pc)
theorem fk_186_3 (X : ez_X) (pc : Nat) : fx_ok X (ft_186_3 X pc) (ez_t186_3 pc) := by
  delta ft_186_3 ez_t186_3
  exact fx_cnd (fx_cnd (fx_cnd (fx_cnd (fun _ _ _ _ _ _ _ _ => rfl) fx_no) (fx_cnd (fun _ _ _ _ _ _ _ _ => rfl) fx_no)) (fx_cnd (fx_cnd (fun _ _ _ _ _ _ _ _ => rfl) fx_no) (fx_cnd (fx_cnd (fun _ _ _ _ _ _ _ _ => rfl) fx_no) (fx_cnd (fun _ _ _ _ _ _ _ _ => rfl) fx_no)))) (fx_cnd (fx_cnd (fx_cnd (fun _ _ _ _ _ _ _ _ => rfl) fx_no) (fx_cnd (fun _ _ _ _ _ _ _ _ => rfl) fx_no)) (fx_cnd (fx_cnd (fun _ _ _ _ _ _ _ _ => rfl) fx_no) (fx_cnd (fx_cnd (fun _ _ _ _ _ _ _ _ => rfl) fx_no) (fx_cnd (fun _ _ _ _ _ _ _ _ => rfl) fx_no))))
theorem fk_186_4 (X : ez_X) (pc : Nat) : fx_ok X (ft_186_4 X pc) (ez_t186_4 pc) := by
  delta ft_186_4 ez_t186_4
  exact fx_cnd (fx_cnd (fx_cnd (fx_cnd (fun _ _ _ _ _ _ _ _ => rfl) fx_no) (fx_cnd (fun _ _ _ _ _ _ _ _ => rfl) fx_no)) (fx_cnd (fx_cnd (fun _ _ _ _ _ _ _ _ => rfl) fx_no) (fx_cnd (fx_cnd (fun _ _ _ _ _ _ _ _ => rfl) fx_no) (fx_cnd (fun _ _ _ _ _ _ _ _ => rfl) fx_no)))) (fx_cnd (fx_cnd (fx_cnd (fun _ _ _ _ _ _ _ _ => rfl) fx_no) (fx_cnd (fx_cnd (fun _ _ _ _ _ _ _ _ => rfl) fx_no) (fx_cnd (fun _ _ _ _ _ _ _ _ => rfl) fx_no))) (fx_cnd (fx_cnd (fun _ _ _ _ _ _ _ _ => rfl) fx_no) (fx_cnd (fx_cnd (fun _ _ _ _ _ _ _ _ => rfl) fx_no) (fx_cnd (fun _ _ _ _ _ _ _ _ => rfl) fx_no))))
theorem fk_186_5 (X : ez_X) (pc : Nat) : fx_ok X (ft_186_5 X pc) (ez_t186_5 pc) := by
  delta ft_186_5 ez_t186_5
  exact fx_cnd (fk_186_3 X pc) (fk_186_4 X pc)
theorem fk_186_6 (X : ez_X) (pc : Nat) : fx_ok X (ft_186_6 X pc) (ez_t186_6 pc) := by
  delta ft_186_6 ez_t186_6
  exact fx_cnd (fk_186_2 X pc) (fk_186_5 X pc)
theorem fk_186_7 (X : ez_X) (pc : Nat) : fx_ok X (ft_186_7 X pc) (ez_t186_7 pc) := by
  delta ft_186_7 ez_t186_7
  exact fx_cnd (fx_cnd (fx_cnd (fx_cnd (fun _ _ _ _ _ _ _ _ => rfl) fx_no) (fx_cnd (fun _ _ _ _ _ _ _ _ => rfl) fx_no)) (fx_cnd (fx_cnd (fun _ _ _ _ _ _ _ _ => rfl) fx_no) (fx_cnd (fx_cnd (fun _ _ _ _ _ _ _ _ => rfl) fx_no) (fx_cnd (fun _ _ _ _ _ _ _ _ => rfl) fx_no)))) (fx_cnd (fx_cnd (fx_cnd (fun _ _ _ _ _ _ _ _ => rfl) fx_no) (fx_cnd (fun _ _ _ _ _ _ _ _ => rfl) fx_no)) (fx_cnd (fx_cnd (fun _ _ _ _ _ _ _ _ => rfl) fx_no) (fx_cnd (fx_cnd (fun _ _ _ _ _ _ _ _ => rfl) fx_no) (fx_cnd (fun _ _ _ _ _ _ _ _ => rfl) fx_no))))
theorem fk_186_8 (X : ez_X) (pc : Nat) : fx_ok X (ft_186_8 X pc) (ez_t186_8 pc) := by
  delta ft_186_8 ez_t186_8
  exact fx_cnd (fx_cnd (fx_cnd (fx_cnd (fun _ _ _ _ _ _ _ _ => rfl) fx_no) (fx_cnd (fun _ _ _ _ _ _ _ _ => rfl) fx_no)) (fx_cnd (fx_cnd (fun _ _ _ _ _ _ _ _ => rfl) fx_no) (fx_cnd (fx_cnd (fun _ _ _ _ _ _ _ _ => rfl) fx_no) (fx_cnd (fun _ _ _ _ _ _ _ _ => rfl) fx_no)))) (fx_cnd (fx_cnd (fx_cnd (fun _ _ _ _ _ _ _ _ => rfl) fx_no) (fx_cnd (fun _ _ _ _ _ _ _ _ => rfl) fx_no)) (fx_cnd (fx_cnd (fun _ _ _ _ _ _ _ _ => rfl) fx_no) (fx_cnd (fx_cnd (fun _ _ _ _ _ _ _ _ => rfl) fx_no) (fx_cnd (fun _ _ _ _ _ _ _ _ => rfl) fx_no))))
theorem fk_186_9 (X : ez_X) (pc : Nat) : fx_ok X (ft_186_9 X pc) (ez_t186_9 pc) := by
  delta ft_186_9 ez_t186_9
  exact fx_cnd (fk_186_7 X pc) (fk_186_8 X pc)
theorem fk_186_10 (X : ez_X) (pc : Nat) : fx_ok X (ft_186_10 X pc) (ez_t186_10 pc) := by
  delta ft_186_10 ez_t186_10
  exact fx_cnd (fx_cnd (fx_cnd (fx_cnd (fun _ _ _ _ _ _ _ _ => rfl) fx_no) (fx_cnd (fun _ _ _ _ _ _ _ _ => rfl) fx_no)) (fx_cnd (fx_cnd (fun _ _ _ _ _ _ _ _ => rfl) fx_no) (fx_cnd (fx_cnd (fun _ _ _ _ _ _ _ _ => rfl) fx_no) (fx_cnd (fun _ _ _ _ _ _ _ _ => rfl) fx_no)))) (fx_cnd (fx_cnd (fx_cnd (fun _ _ _ _ _ _ _ _ => rfl) fx_no) (fx_cnd (fun _ _ _ _ _ _ _ _ => rfl) fx_no)) (fx_cnd (fx_cnd (fun _ _ _ _ _ _ _ _ => rfl) fx_no) (fx_cnd (fx_cnd (fun _ _ _ _ _ _ _ _ => rfl) fx_no) (fx_cnd (fun _ _ _ _ _ _ _ _ => rfl) fx_no))))
theorem fk_186_11 (X : ez_X) (pc : Nat) : fx_ok X (ft_186_11 X pc) (ez_t186_11 pc) := by
  delta ft_186_11 ez_t186_11
  exact fx_cnd (fx_cnd (fx_cnd (fx_cnd (fun _ _ _ _ _ _ _ _ => rfl) fx_no) (fx_cnd (fun _ _ _ _ _ _ _ _ => rfl) fx_no)) (fx_cnd (fx_cnd (fun _ _ _ _ _ _ _ _ => rfl) fx_no) (fx_cnd (fx_cnd (fun _ _ _ _ _ _ _ _ => rfl) fx_no) (fx_cnd (fun _ _ _ _ _ _ _ _ => rfl) fx_no)))) (fx_cnd (fx_cnd (fx_cnd (fun _ _ _ _ _ _ _ _ => rfl) fx_no) (fx_cnd (fx_cnd (fun _ _ _ _ _ _ _ _ => rfl) fx_no) (fx_cnd (fun _ _ _ _ _ _ _ _ => rfl) fx_no))) (fx_cnd (fx_cnd (fun _ _ _ _ _ _ _ _ => rfl) fx_no) (fx_cnd (fx_cnd (fun _ _ _ _ _ _ _ _ => rfl) fx_no) (fx_cnd (fun _ _ _ _ _ _ _ _ => rfl) fx_no))))
theorem fk_186_12 (X : ez_X) (pc : Nat) : fx_ok X (ft_186_12 X pc) (ez_t186_12 pc) := by
  delta ft_186_12 ez_t186_12
  exact fx_cnd (fk_186_10 X pc) (fk_186_11 X pc)
theorem fk_186_13 (X : ez_X) (pc : Nat) : fx_ok X (ft_186_13 X pc) (ez_t186_13 pc) := by
  delta ft_186_13 ez_t186_13
  exact fx_cnd (fk_186_9 X pc) (fk_186_12 X pc)
theorem fk_186 (X : ez_X) (pc : Nat) : fx_ok X (ft_186 X pc) (ez_t186 pc) := by
  delta ft_186 ez_t186
  exact fx_cnd (fk_186_6 X pc) (fk_186_13 X pc)
theorem fk_187_0 (X : ez_X) (pc : Nat) : fx_ok X (ft_187_0 X pc) (ez_t187_0 pc) := by
  delta ft_187_0 ez_t187_0
  exact fx_cnd (fx_cnd (fx_cnd (fun _ _ _ _ _ _ _ _ => rfl) fx_no) (fx_cnd (fx_cnd (fun _ _ _ _ _ _ _ _ => rfl) fx_no) (fx_cnd (fun _ _ _ _ _ _ _ _ => rfl) fx_no))) (fx_cnd (fx_cnd (fx_cnd (fun _ _ _ _ _ _ _ _ => rfl) fx_no) (fx_cnd (fun _ _ _ _ _ _ _ _ => rfl) fx_no)) (fx_cnd (fx_cnd (fun _ _ _ _ _ _ _ _ => rfl) fx_no) (fx_cnd (fun _ _ _ _ _ _ _ _ => rfl) fx_no)))
theorem fk_187_1 (X : ez_X) (pc : Nat) : fx_ok X (ft_187_1 X pc) (ez_t187_1 pc) := by
  delta ft_187_1 ez_t187_1
  exact fx_cnd (fx_cnd (fx_cnd (fx_cnd (fun _ _ _ _ _ _ _ _ => rfl) fx_no) (fx_cnd (fun _ _ _ _ _ _ _ _ => rfl) fx_no)) (fx_cnd (fx_cnd (fun _ _ _ _ _ _ _ _ => rfl) fx_no) (fx_cnd (fun _ _ _ _ _ _ _ _ => rfl) fx_no))) (fx_cnd (fx_cnd (fx_cnd (fun _ _ _ _ _ _ _ _ => rfl) fx_no) (fx_cnd (fun _ _ _ _ _ _ _ _ => rfl) fx_no)) (fx_cnd (fx_cnd (fun _ _ _ _ _ _ _ _ => rfl) fx_no) (fx_cnd (fun _ _ _ _ _ _ _ _ => rfl) fx_no)))
theorem fk_187_2 (X : ez_X) (pc : Nat) : fx_ok X (ft_187_2 X pc) (ez_t187_2 pc) := by
  delta ft_187_2 ez_t187_2
  exact fx_cnd (fk_187_0 X pc) (fk_187_1 X pc)
theorem fk_187_3 (X : ez_X) (pc : Nat) : fx_ok X (ft_187_3 X pc) (ez_t187_3 pc) := by
  delta ft_187_3 ez_t187_3
  exact fx_cnd (fx_cnd (fx_cnd (fun _ _ _ _ _ _ _ _ => rfl) fx_no) (fx_cnd (fx_cnd (fun _ _ _ _ _ _ _ _ => rfl) fx_no) (fx_cnd (fun _ _ _ _ _ _ _ _ => rfl) fx_no))) (fx_cnd (fx_cnd (fx_cnd (fun _ _ _ _ _ _ _ _ => rfl) fx_no) (fx_cnd (fun _ _ _ _ _ _ _ _ => rfl) fx_no)) (fx_cnd (fx_cnd (fun _ _ _ _ _ _ _ _ => rfl) fx_no) (fx_cnd (fun _ _ _ _ _ _ _ _ => rfl) fx_no)))
theorem fk_187_4 (X : ez_X) (pc : Nat) : fx_ok X (ft_187_4 X pc) (ez_t187_4 pc) := by
  delta ft_187_4 ez_t187_4
  exact fx_cnd (fx_cnd (fx_cnd (fx_cnd (fun _ _ _ _ _ _ _ _ => rfl) fx_no) (fx_cnd (fun _ _ _ _ _ _ _ _ => rfl) fx_no)) (fx_cnd (fx_cnd (fun _ _ _ _ _ _ _ _ => rfl) fx_no) (fx_cnd (fun _ _ _ _ _ _ _ _ => rfl) fx_no))) (fx_cnd (fx_cnd (fx_cnd (fun _ _ _ _ _ _ _ _ => rfl) fx_no) (fx_cnd (fun _ _ _ _ _ _ _ _ => rfl) fx_no)) (fx_cnd (fx_cnd (fun _ _ _ _ _ _ _ _ => rfl) fx_no) (fx_cnd (fun _ _ _ _ _ _ _ _ => rfl) fx_no)))
theorem fk_187_5 (X : ez_X) (pc : Nat) : fx_ok X (ft_187_5 X pc) (ez_t187_5 pc) := by
  delta ft_187_5 ez_t187_5
  exact fx_cnd (fk_187_3 X pc) (fk_187_4 X pc)
theorem fk_187_6 (X : ez_X) (pc : Nat) : fx_ok X (ft_187_6 X pc) (ez_t187_6 pc) := by
  delta ft_187_6 ez_t187_6
  exact fx_cnd (fk_187_2 X pc) (fk_187_5 X pc)
theorem fk_187_7 (X : ez_X) (pc : Nat) : fx_ok X (ft_187_7 X pc) (ez_t187_7 pc) := by
  delta ft_187_7 ez_t187_7
  exact fx_cnd (fx_cnd (fx_cnd (fun _ _ _ _ _ _ _ _ => rfl) fx_no) (fx_cnd (fx_cnd (fun _ _ _ _ _ _ _ _ => rfl) fx_no) (fx_cnd (fun _ _ _ _ _ _ _ _ => rfl) fx_no))) (fx_cnd (fx_cnd (fx_cnd (fun _ _ _ _ _ _ _ _ => rfl) fx_no) (fx_cnd (fun _ _ _ _ _ _ _ _ => rfl) fx_no)) (fx_cnd (fx_cnd (fun _ _ _ _ _ _ _ _ => rfl) fx_no) (fx_cnd (fun _ _ _ _ _ _ _ _ => rfl) fx_no)))
theorem fk_187_8 (X : ez_X) (pc : Nat) : fx_ok X (ft_187_8 X pc) (ez_t187_8 pc) := by
  delta ft_187_8 ez_t187_8
  exact fx_cnd (fx_cnd (fx_cnd (fx_cnd (fun _ _ _ _ _ _ _ _ => rfl) fx_no) (fx_cnd (fun _ _ _ _ _ _ _ _ => rfl) fx_no)) (fx_cnd (fx_cnd (fun _ _ _ _ _ _ _ _ => rfl) fx_no) (fx_cnd (fun _ _ _ _ _ _ _ _ => rfl) fx_no))) (fx_cnd (fx_cnd (fx_cnd (fun _ _ _ _ _ _ _ _ => rfl) fx_no) (fx_cnd (fun _ _ _ _ _ _ _ _ => rfl) fx_no)) (fx_cnd (fx_cnd (fun _ _ _ _ _ _ _ _ => rfl) fx_no) (fx_cnd (fun _ _ _ _ _ _ _ _ => rfl) fx_no)))
theorem fk_187_9 (X : ez_X) (pc : Nat) : fx_ok X (ft_187_9 X pc) (ez_t187_9 pc) := by
  delta ft_187_9 ez_t187_9
  exact fx_cnd (fk_187_7 X pc) (fk_187_8 X pc)
theorem fk_187_10 (X : ez_X) (pc : Nat) : fx_ok X (ft_187_10 X pc) (ez_t187_10 pc) := by
  delta ft_187_10 ez_t187_10
  exact fx_cnd (fx_cnd (fx_cnd (fun _ _ _ _ _ _ _ _ => rfl) fx_no) (fx_cnd (fx_cnd (fun _ _ _ _ _ _ _ _ => rfl) fx_no) (fx_cnd (fun _ _ _ _ _ _ _ _ => rfl) fx_no))) (fx_cnd (fx_cnd (fx_cnd (fun _ _ _ _ _ _ _ _ => rfl) fx_no) (fx_cnd (fun _ _ _ _ _ _ _ _ => rfl) fx_no)) (fx_cnd (fx_cnd (fun _ _ _ _ _ _ _ _ => rfl) fx_no) (fx_cnd (fun _ _ _ _ _ _ _ _ => rfl) fx_no)))
theorem fk_187_11 (X : ez_X) (pc : Nat) : fx_ok X (ft_187_11 X pc) (ez_t187_11 pc) := by
  delta ft_187_11 ez_t187_11
  exact fx_cnd (fx_cnd (fx_cnd (fx_cnd (fun _ _ _ _ _ _ _ _ => rfl) fx_no) (fx_cnd (fun _ _ _ _ _ _ _ _ => rfl) fx_no)) (fx_cnd (fx_cnd (fun _ _ _ _ _ _ _ _ => rfl) fx_no) (fx_cnd (fun _ _ _ _ _ _ _ _ => rfl) fx_no))) (fx_cnd (fx_cnd (fx_cnd (fun _ _ _ _ _ _ _ _ => rfl) fx_no) (fx_cnd (fun _ _ _ _ _ _ _ _ => rfl) fx_no)) (fx_cnd (fx_cnd (fun _ _ _ _ _ _ _ _ => rfl) fx_no) (fx_cnd (fun _ _ _ _ _ _ _ _ => rfl) fx_no)))
theorem fk_187_12 (X : ez_X) (pc : Nat) : fx_ok X (ft_187_12 X pc) (ez_t187_12 pc) := by
  delta ft_187_12 ez_t187_12
  exact fx_cnd (fk_187_10 X pc) (fk_187_11 X pc)
theorem fk_187_13 (X : ez_X) (pc : Nat) : fx_ok X (ft_187_13 X pc) (ez_t187_13 pc) := by
  delta ft_187_13 ez_t187_13
  exact fx_cnd (fk_187_9 X pc) (fk_187_12 X pc)
theorem fk_187_14 (X : ez_X) (pc : Nat) : fx_ok X (ft_187_14 X pc) (ez_t187_14 pc) := by
  delta ft_187_14 ez_t187_14
  exact fx_cnd (fk_187_6 X pc) (fk_187_13 X pc)
theorem fk_187_15 (X : ez_X) (pc : Nat) : fx_ok X (ft_187_15 X pc) (ez_t187_15 pc) := by
  delta ft_187_15 ez_t187_15
  exact fx_cnd (fx_cnd (fx_cnd (fun _ _ _ _ _ _ _ _ => rfl) fx_no) (fx_cnd (fx_cnd (fun _ _ _ _ _ _ _ _ => rfl) fx_no) (fx_cnd (fun _ _ _ _ _ _ _ _ => rfl) fx_no))) (fx_cnd (fx_cnd (fx_cnd (fun _ _ _ _ _ _ _ _ => rfl) fx_no) (fx_cnd (fun _ _ _ _ _ _ _ _ => rfl) fx_no)) (fx_cnd (fx_cnd (fun _ _ _ _ _ _ _ _ => rfl) fx_no) (fx_cnd (fun _ _ _ _ _ _ _ _ => rfl) fx_no)))
theorem fk_187_16 (X : ez_X) (pc : Nat) : fx_ok X (ft_187_16 X pc) (ez_t187_16 pc) := by
  delta ft_187_16 ez_t187_16
  exact fx_cnd (fx_cnd (fx_cnd (fx_cnd (fun _ _ _ _ _ _ _ _ => rfl) fx_no) (fx_cnd (fun _ _ _ _ _ _ _ _ => rfl) fx_no)) (fx_cnd (fx_cnd (fun _ _ _ _ _ _ _ _ => rfl) fx_no) (fx_cnd (fun _ _ _ _ _ _ _ _ => rfl) fx_no))) (fx_cnd (fx_cnd (fx_cnd (fun _ _ _ _ _ _ _ _ => rfl) fx_no) (fx_cnd (fun _ _ _ _ _ _ _ _ => rfl) fx_no)) (fx_cnd (fx_cnd (fun _ _ _ _ _ _ _ _ => rfl) fx_no) (fx_cnd (fun _ _ _ _ _ _ _ _ => rfl) fx_no)))
theorem fk_187_17 (X : ez_X) (pc : Nat) : fx_ok X (ft_187_17 X pc) (ez_t187_17 pc) := by
  delta ft_187_17 ez_t187_17
  exact fx_cnd (fk_187_15 X pc) (fk_187_16 X pc)
theorem fk_187_18 (X : ez_X) (pc : Nat) : fx_ok X (ft_187_18 X pc) (ez_t187_18 pc) := by
  delta ft_187_18 ez_t187_18
  exact fx_cnd (fx_cnd (fx_cnd (fun _ _ _ _ _ _ _ _ => rfl) fx_no) (fx_cnd (fx_cnd (fun _ _ _ _ _ _ _ _ => rfl) fx_no) (fx_cnd (fun _ _ _ _ _ _ _ _ => rfl) fx_no))) (fx_cnd (fx_cnd (fx_cnd (fun _ _ _ _ _ _ _ _ => rfl) fx_no) (fx_cnd (fun _ _ _ _ _ _ _ _ => rfl) fx_no)) (fx_cnd (fx_cnd (fun _ _ _ _ _ _ _ _ => rfl) fx_no) (fx_cnd (fun _ _ _ _ _ _ _ _ => rfl) fx_no)))
theorem fk_187_19 (X : ez_X) (pc : Nat) : fx_ok X (ft_187_19 X pc) (ez_t187_19 pc) := by
  delta ft_187_19 ez_t187_19
  exact fx_cnd (fx_cnd (fx_cnd (fx_cnd (fun _ _ _ _ _ _ _ _ => rfl) fx_no) (fx_cnd (fun _ _ _ _ _ _ _ _ => rfl) fx_no)) (fx_cnd (fx_cnd (fun _ _ _ _ _ _ _ _ => rfl) fx_no) (fx_cnd (fun _ _ _ _ _ _ _ _ => rfl) fx_no))) (fx_cnd (fx_cnd (fx_cnd (fun _ _ _ _ _ _ _ _ => rfl) fx_no) (fx_cnd (fun _ _ _ _ _ _ _ _ => rfl) fx_no)) (fx_cnd (fx_cnd (fun _ _ _ _ _ _ _ _ => rfl) fx_no) (fx_cnd (fun _ _ _ _ _ _ _ _ => rfl) fx_no)))
theorem fk_187_20 (X : ez_X) (pc : Nat) : fx_ok X (ft_187_20 X pc) (ez_t187_20 pc) := by
  delta ft_187_20 ez_t187_20
  exact fx_cnd (fk_187_18 X pc) (fk_187_19 X pc)
theorem fk_187_21 (X : ez_X) (pc : Nat) : fx_ok X (ft_187_21 X pc) (ez_t187_21 pc) := by
  delta ft_187_21 ez_t187_21
  exact fx_cnd (fk_187_17 X pc) (fk_187_20 X pc)
theorem fk_187_22 (X : ez_X) (pc : Nat) : fx_ok X (ft_187_22 X pc) (ez_t187_22 pc) := by
  delta ft_187_22 ez_t187_22
  exact fx_cnd (fx_cnd (fx_cnd (fun _ _ _ _ _ _ _ _ => rfl) fx_no) (fx_cnd (fx_cnd (fun _ _ _ _ _ _ _ _ => rfl) fx_no) (fx_cnd (fun _ _ _ _ _ _ _ _ => rfl) fx_no))) (fx_cnd (fx_cnd (fx_cnd (fun _ _ _ _ _ _ _ _ => rfl) fx_no) (fx_cnd (fun _ _ _ _ _ _ _ _ => rfl) fx_no)) (fx_cnd (fx_cnd (fun _ _ _ _ _ _ _ _ => rfl) fx_no) (fx_cnd (fun _ _ _ _ _ _ _ _ => rfl) fx_no)))
theorem fk_187_23 (X : ez_X) (pc : Nat) : fx_ok X (ft_187_23 X pc) (ez_t187_23 pc) := by
  delta ft_187_23 ez_t187_23
  exact fx_cnd (fx_cnd (fx_cnd (fx_cnd (fun _ _ _ _ _ _ _ _ => rfl) fx_no) (fx_cnd (fun _ _ _ _ _ _ _ _ => rfl) fx_no)) (fx_cnd (fx_cnd (fun _ _ _ _ _ _ _ _ => rfl) fx_no) (fx_cnd (fun _ _ _ _ _ _ _ _ => rfl) fx_no))) (fx_cnd (fx_cnd (fx_cnd (fun _ _ _ _ _ _ _ _ => rfl) fx_no) (fx_cnd (fun _ _ _ _ _ _ _ _ => rfl) fx_no)) (fx_cnd (fx_cnd (fun _ _ _ _ _ _ _ _ => rfl) fx_no) (fx_cnd (fun _ _ _ _ _ _ _ _ => rfl) fx_no)))
theorem fk_187_24 (X : ez_X) (pc : Nat) : fx_ok X (ft_187_24 X pc) (ez_t187_24 pc) := by
  delta ft_187_24 ez_t187_24
  exact fx_cnd (fk_187_22 X pc) (fk_187_23 X pc)
theorem fk_187_25 (X : ez_X) (pc : Nat) : fx_ok X (ft_187_25 X pc) (ez_t187_25 pc) := by
  delta ft_187_25 ez_t187_25
  exact fx_cnd (fx_cnd (fx_cnd (fx_cnd (fun _ _ _ _ _ _ _ _ => rfl) fx_no) (fx_cnd (fun _ _ _ _ _ _ _ _ => rfl) fx_no)) (fx_cnd (fx_cnd (fun _ _ _ _ _ _ _ _ => rfl) fx_no) (fx_cnd (fun _ _ _ _ _ _ _ _ => rfl) fx_no))) (fx_cnd (fx_cnd (fx_cnd (fun _ _ _ _ _ _ _ _ => rfl) fx_no) (fx_cnd (fun _ _ _ _ _ _ _ _ => rfl) fx_no)) (fx_cnd (fx_cnd (fun _ _ _ _ _ _ _ _ => rfl) fx_no) (fx_cnd (fun _ _ _ _ _ _ _ _ => rfl) fx_no)))
theorem fk_187_26 (X : ez_X) (pc : Nat) : fx_ok X (ft_187_26 X pc) (ez_t187_26 pc) := by
  delta ft_187_26 ez_t187_26
  exact fx_cnd (fx_cnd (fx_cnd (fx_cnd (fun _ _ _ _ _ _ _ _ => rfl) fx_no) (fx_cnd (fun _ _ _ _ _ _ _ _ => rfl) fx_no)) (fx_cnd (fx_cnd (fun _ _ _ _ _ _ _ _ => rfl) fx_no) (fx_cnd (fun _ _ _ _ _ _ _ _ => rfl) fx_no))) (fx_cnd (fx_cnd (fx_cnd (fun _ _ _ _ _ _ _ _ => rfl) fx_no) (fx_cnd (fun _ _ _ _ _ _ _ _ => rfl) fx_no)) (fx_cnd (fx_cnd (fun _ _ _ _ _ _ _ _ => rfl) fx_no) (fx_cnd (fun _ _ _ _ _ _ _ _ => rfl) fx_no)))
theorem fk_187_27 (X : ez_X) (pc : Nat) : fx_ok X (ft_187_27 X pc) (ez_t187_27 pc) := by
  delta ft_187_27 ez_t187_27
  exact fx_cnd (fk_187_25 X pc) (fk_187_26 X pc)
theorem fk_187_28 (X : ez_X) (pc : Nat) : fx_ok X (ft_187_28 X pc) (ez_t187_28 pc) := by
  delta ft_187_28 ez_t187_28
  exact fx_cnd (fk_187_24 X pc) (fk_187_27 X pc)
theorem fk_187_29 (X : ez_X) (pc : Nat) : fx_ok X (ft_187_29 X pc) (ez_t187_29 pc) := by
  delta ft_187_29 ez_t187_29
  exact fx_cnd (fk_187_21 X pc) (fk_187_28 X pc)
theorem fk_187 (X : ez_X) (pc : Nat) : fx_ok X (ft_187 X pc) (ez_t187 pc) := by
  delta ft_187 ez_t187
  exact fx_cnd (fk_187_14 X pc) (fk_187_29 X pc)
theorem fk_188_0 (X : ez_X) (pc : Nat) : fx_ok X (ft_188_0 X pc) (ez_t188_0 pc) := by
  delta ft_188_0 ez_t188_0
  exact fx_cnd (fx_cnd (fx_cnd (fx_cnd (fun _ _ _ _ _ _ _ _ => rfl) fx_no) (fx_cnd (fun _ _ _ _ _ _ _ _ => rfl) fx_no)) (fx_cnd (fx_cnd (fun _ _ _ _ _ _ _ _ => rfl) fx_no) (fx_cnd (fx_cnd (fun _ _ _ _ _ _ _ _ => rfl) fx_no) (fx_cnd (fun _ _ _ _ _ _ _ _ => rfl) fx_no)))) (fx_cnd (fx_cnd (fx_cnd (fun _ _ _ _ _ _ _ _ => rfl) fx_no) (fx_cnd (fun _ _ _ _ _ _ _ _ => rfl) fx_no)) (fx_cnd (fx_cnd (fun _ _ _ _ _ _ _ _ => rfl) fx_no) (fx_cnd (fx_cnd (fun _ _ _ _ _ _ _ _ => rfl) fx_no) (fx_cnd (fun _ _ _ _ _ _ _ _ => rfl) fx_no))))
theorem fk_188_1 (X : ez_X) (pc : Nat) : fx_ok X (ft_188_1 X pc) (ez_t188_1 pc) := by
  delta ft_188_1 ez_t188_1
  exact fx_cnd (fx_cnd (fx_cnd (fx_cnd (fun _ _ _ _ _ _ _ _ => rfl) fx_no) (fx_cnd (fun _ _ _ _ _ _ _ _ => rfl) fx_no)) (fx_cnd (fx_cnd (fun _ _ _ _ _ _ _ _ => rfl) fx_no) (fx_cnd (fx_cnd (fun _ _ _ _ _ _ _ _ => rfl) fx_no) (fx_cnd (fun _ _ _ _ _ _ _ _ => rfl) fx_no)))) (fx_cnd (fx_cnd (fx_cnd (fun _ _ _ _ _ _ _ _ => rfl) fx_no) (fx_cnd (fx_cnd (fun _ _ _ _ _ _ _ _ => rfl) fx_no) (fx_cnd (fun _ _ _ _ _ _ _ _ => rfl) fx_no))) (fx_cnd (fx_cnd (fun _ _ _ _ _ _ _ _ => rfl) fx_no) (fx_cnd (fx_cnd (fun _ _ _ _ _ _ _ _ => rfl) fx_no) (fx_cnd (fun _ _ _ _ _ _ _ _ => rfl) fx_no))))
theorem fk_188_2 (X : ez_X) (pc : Nat) : fx_ok X (ft_188_2 X pc) (ez_t188_2 pc) := by
  delta ft_188_2 ez_t188_2
  exact fx_cnd (fk_188_0 X pc) (fk_188_1 X pc)
theorem fk_188_3 (X : ez_X) (pc : Nat) : fx_ok X (ft_188_3 X pc) (ez_t188_3 pc) := by
  delta ft_188_3 ez_t188_3
  exact fx_cnd (fx_cnd (fx_cnd (fx_cnd (fun _ _ _ _ _ _ _ _ => rfl) fx_no) (fx_cnd (fun _ _ _ _ _ _ _ _ => rfl) fx_no)) (fx_cnd (fx_cnd (fun _ _ _ _ _ _ _ _ => rfl) fx_no) (fx_cnd (fx_cnd (fun _ _ _ _ _ _ _ _ => rfl) fx_no) (fx_cnd (fun _ _ _ _ _ _ _ _ => rfl) fx_no)))) (fx_cnd (fx_cnd (fx_cnd (fun _ _ _ _ _ _ _ _ => rfl) fx_no) (fx_cnd (fun _ _ _ _ _ _ _ _ => rfl) fx_no)) (fx_cnd (fx_cnd (fun _ _ _ _ _ _ _ _ => rfl) fx_no) (fx_cnd (fx_cnd (fun _ _ _ _ _ _ _ _ => rfl) fx_no) (fx_cnd (fun _ _ _ _ _ _ _ _ => rfl) fx_no))))
theorem fk_188_4 (X : ez_X) (pc : Nat) : fx_ok X (ft_188_4 X pc) (ez_t188_4 pc) := by
  delta ft_188_4 ez_t188_4
  exact fx_cnd (fx_cnd (fx_cnd (fx_cnd (fun _ _ _ _ _ _ _ _ => rfl) fx_no) (fx_cnd (fun _ _ _ _ _ _ _ _ => rfl) fx_no)) (fx_cnd (fx_cnd (fun _ _ _ _ _ _ _ _ => rfl) fx_no) (fx_cnd (fx_cnd (fun _ _ _ _ _ _ _ _ => rfl) fx_no) (fx_cnd (fun _ _ _ _ _ _ _ _ => rfl) fx_no)))) (fx_cnd (fx_cnd (fx_cnd (fun _ _ _ _ _ _ _ _ => rfl) fx_no) (fx_cnd (fx_cnd (fun _ _ _ _ _ _ _ _ => rfl) fx_no) (fx_cnd (fun _ _ _ _ _ _ _ _ => rfl) fx_no))) (fx_cnd (fx_cnd (fun _ _ _ _ _ _ _ _ => rfl) fx_no) (fx_cnd (fx_cnd (fun _ _ _ _ _ _ _ _ => rfl) fx_no) (fx_cnd (fun _ _ _ _ _ _ _ _ => rfl) fx_no))))
theorem fk_188_5 (X : ez_X) (pc : Nat) : fx_ok X (ft_188_5 X pc) (ez_t188_5 pc) := by
  delta ft_188_5 ez_t188_5
  exact fx_cnd (fk_188_3 X pc) (fk_188_4 X pc)
theorem fk_188_6 (X : ez_X) (pc : Nat) : fx_ok X (ft_188_6 X pc) (ez_t188_6 pc) := by
  delta ft_188_6 ez_t188_6
  exact fx_cnd (fk_188_2 X pc) (fk_188_5 X pc)
theorem fk_188_7 (X : ez_X) (pc : Nat) : fx_ok X (ft_188_7 X pc) (ez_t188_7 pc) := by
  delta ft_188_7 ez_t188_7
  exact fx_cnd (fx_cnd (fx_cnd (fx_cnd (fun _ _ _ _ _ _ _ _ => rfl) fx_no) (fx_cnd (fun _ _ _ _ _ _ _ _ => rfl) fx_no)) (fx_cnd (fx_cnd (fun _ _ _ _ _ _ _ _ => rfl) fx_no) (fx_cnd (fx_cnd (fun _ _ _ _ _ _ _ _ => rfl) fx_no) (fx_cnd (fun _ _ _ _ _ _ _ _ => rfl) fx_no)))) (fx_cnd (fx_cnd (fx_cnd (fun _ _ _ _ _ _ _ _ => rfl) fx_no) (fx_cnd (fun _ _ _ _ _ _ _ _ => rfl) fx_no)) (fx_cnd (fx_cnd (fun _ _ _ _ _ _ _ _ => rfl) fx_no) (fx_cnd (fx_cnd (fun _ _ _ _ _ _ _ _ => rfl) fx_no) (fx_cnd (fun _ _ _ _ _ _ _ _ => rfl) fx_no))))
theorem fk_188_8 (X : ez_X) (pc : Nat) : fx_ok X (ft_188_8 X pc) (ez_t188_8 pc) := by
  delta ft_188_8 ez_t188_8
  exact fx_cnd (fx_cnd (fx_cnd (fx_cnd (fun _ _ _ _ _ _ _ _ => rfl) fx_no) (fx_cnd (fun _ _ _ _ _ _ _ _ => rfl) fx_no)) (fx_cnd (fx_cnd (fun _ _ _ _ _ _ _ _ => rfl) fx_no) (fx_cnd (fx_cnd (fun _ _ _ _ _ _ _ _ => rfl) fx_no) (fx_cnd (fun _ _ _ _ _ _ _ _ => rfl) fx_no)))) (fx_cnd (fx_cnd (fx_cnd (fun _ _ _ _ _ _ _ _ => rfl) fx_no) (fx_cnd (fx_cnd (fun _ _ _ _ _ _ _ _ => rfl) fx_no) (fx_cnd (fun _ _ _ _ _ _ _ _ => rfl) fx_no))) (fx_cnd (fx_cnd (fun _ _ _ _ _ _ _ _ => rfl) fx_no) (fx_cnd (fx_cnd (fun _ _ _ _ _ _ _ _ => rfl) fx_no) (fx_cnd (fun _ _ _ _ _ _ _ _ => rfl) fx_no))))
theorem fk_188_9 (X : ez_X) (pc : Nat) : fx_ok X (ft_188_9 X pc) (ez_t188_9 pc) := by
  delta ft_188_9 ez_t188_9
  exact fx_cnd (fk_188_7 X pc) (fk_188_8 X pc)
theorem fk_188_10 (X : ez_X) (pc : Nat) : fx_ok X (ft_188_10 X pc) (ez_t188_10 pc) := by
  delta ft_188_10 ez_t188_10
  exact fx_cnd (fx_cnd (fx_cnd (fx_cnd (fun _ _ _ _ _ _ _ _ => rfl) fx_no) (fx_cnd (fun _ _ _ _ _ _ _ _ => rfl) fx_no)) (fx_cnd (fx_cnd (fun _ _ _ _ _ _ _ _ => rfl) fx_no) (fx_cnd (fx_cnd (fun _ _ _ _ _ _ _ _ => rfl) fx_no) (fx_cnd (fun _ _ _ _ _ _ _ _ => rfl) fx_no)))) (fx_cnd (fx_cnd (fx_cnd (fun _ _ _ _ _ _ _ _ => rfl) fx_no) (fx_cnd (fx_cnd (fun _ _ _ _ _ _ _ _ => rfl) fx_no) (fx_cnd (fun _ _ _ _ _ _ _ _ => rfl) fx_no))) (fx_cnd (fx_cnd (fun _ _ _ _ _ _ _ _ => rfl) fx_no) (fx_cnd (fx_cnd (fun _ _ _ _ _ _ _ _ => rfl) fx_no) (fx_cnd (fun _ _ _ _ _ _ _ _ => rfl) fx_no))))
theorem fk_188_11 (X : ez_X) (pc : Nat) : fx_ok X (ft_188_11 X pc) (ez_t188_11 pc) := by
  delta ft_188_11 ez_t188_11
  exact fx_cnd (fx_cnd (fx_cnd (fx_cnd (fun _ _ _ _ _ _ _ _ => rfl) fx_no) (fx_cnd (fun _ _ _ _ _ _ _ _ => rfl) fx_no)) (fx_cnd (fx_cnd (fun _ _ _ _ _ _ _ _ => rfl) fx_no) (fx_cnd (fx_cnd (fun _ _ _ _ _ _ _ _ => rfl) fx_no) (fx_cnd (fun _ _ _ _ _ _ _ _ => rfl) fx_no)))) (fx_cnd (fx_cnd (fx_cnd (fun _ _ _ _ _ _ _ _ => rfl) fx_no) (fx_cnd (fx_cnd (fun _ _ _ _ _ _ _ _ => rfl) fx_no) (fx_cnd (fun _ _ _ _ _ _ _ _ => rfl) fx_no))) (fx_cnd (fx_cnd (fun _ _ _ _ _ _ _ _ => rfl) fx_no) (fx_cnd (fx_cnd (fun _ _ _ _ _ _ _ _ => rfl) fx_no) (fx_cnd (fun _ _ _ _ _ _ _ _ => rfl) fx_no))))
theorem fk_188_12 (X : ez_X) (pc : Nat) : fx_ok X (ft_188_12 X pc) (ez_t188_12 pc) := by
  delta ft_188_12 ez_t188_12
  exact fx_cnd (fk_188_10 X pc) (fk_188_11 X pc)
theorem fk_188_13 (X : ez_X) (pc : Nat) : fx_ok X (ft_188_13 X pc) (ez_t188_13 pc) := by
  delta ft_188_13 ez_t188_13
  exact fx_cnd (fk_188_9 X pc) (fk_188_12 X pc)
theorem fk_188 (X : ez_X) (pc : Nat) : fx_ok X (ft_188 X pc) (ez_t188 pc) := by
  delta ft_188 ez_t188
  exact fx_cnd (fk_188_6 X pc) (fk_188_13 X pc)
theorem fk_189_0 (X : ez_X) (pc : Nat) : fx_ok X (ft_189_0 X pc) (ez_t189_0 pc) := by
  delta ft_189_0 ez_t189_0
  exact fx_cnd (fx_cnd (fx_cnd (fx_cnd (fun _ _ _ _ _ _ _ _ => rfl) fx_no) (fx_cnd (fun _ _ _ _ _ _ _ _ => rfl) fx_no)) (fx_cnd (fx_cnd (fun _ _ _ _ _ _ _ _ => rfl) fx_no) (fx_cnd (fun _ _ _ _ _ _ _ _ => rfl) fx_no))) (fx_cnd (fx_cnd (fx_cnd (fun _ _ _ _ _ _ _ _ => rfl) fx_no) (fx_cnd (fun _ _ _ _ _ _ _ _ => rfl) fx_no)) (fx_cnd (fx_cnd (fun _ _ _ _ _ _ _ _ => rfl) fx_no) (fx_cnd (fx_cnd (fun _ _ _ _ _ _ _ _ => rfl) fx_no) (fx_cnd (fun _ _ _ _ _ _ _ _ => rfl) fx_no))))
theorem fk_189_1 (X : ez_X) (pc : Nat) : fx_ok X (ft_189_1 X pc) (ez_t189_1 pc) := by
  delta ft_189_1 ez_t189_1
  exact fx_cnd (fx_cnd (fx_cnd (fx_cnd (fun _ _ _ _ _ _ _ _ => rfl) fx_no) (fx_cnd (fun _ _ _ _ _ _ _ _ => rfl) fx_no)) (fx_cnd (fx_cnd (fun _ _ _ _ _ _ _ _ => rfl) fx_no) (fx_cnd (fun _ _ _ _ _ _ _ _ => rfl) fx_no))) (fx_cnd (fx_cnd (fx_cnd (fun _ _ _ _ _ _ _ _ => rfl) fx_no) (fx_cnd (fun _ _ _ _ _ _ _ _ => rfl) fx_no)) (fx_cnd (fx_cnd (fun _ _ _ _ _ _ _ _ => rfl) fx_no) (fx_cnd (fx_cnd (fun _ _ _ _ _ _ _ _ => rfl) fx_no) (fx_cnd (fun _ _ _ _ _ _ _ _ => rfl) fx_no))))
theorem fk_189_2 (X : ez_X) (pc : Nat) : fx_ok X (ft_189_2 X pc) (ez_t189_2 pc) := by
  delta ft_189_2 ez_t189_2
  exact fx_cnd (fk_189_0 X pc) (fk_189_1 X pc)
theorem fk_189_3 (X : ez_X) (pc : Nat) : fx_ok X (ft_189_3 X pc) (ez_t189_3 pc) := by
  delta ft_189_3 ez_t189_3
  exact fx_cnd (fx_cnd (fx_cnd (fx_cnd (fun _ _ _ _ _ _ _ _ => rfl) fx_no) (fx_cnd (fun _ _ _ _ _ _ _ _ => rfl) fx_no)) (fx_cnd (fx_cnd (fun _ _ _ _ _ _ _ _ => rfl) fx_no) (fx_cnd (fun _ _ _ _ _ _ _ _ => rfl) fx_no))) (fx_cnd (fx_cnd (fx_cnd (fun _ _ _ _ _ _ _ _ => rfl) fx_no) (fx_cnd (fun _ _ _ _ _ _ _ _ => rfl) fx_no)) (fx_cnd (fx_cnd (fun _ _ _ _ _ _ _ _ => rfl) fx_no) (fx_cnd (fx_cnd (fun _ _ _ _ _ _ _ _ => rfl) fx_no) (fx_cnd (fun _ _ _ _ _ _ _ _ => rfl) fx_no))))
theorem fk_189_4 (X : ez_X) (pc : Nat) : fx_ok X (ft_189_4 X pc) (ez_t189_4 pc) := by
  delta ft_189_4 ez_t189_4
  exact fx_cnd (fx_cnd (fx_cnd (fx_cnd (fun _ _ _ _ _ _ _ _ => rfl) fx_no) (fx_cnd (fun _ _ _ _ _ _ _ _ => rfl) fx_no)) (fx_cnd (fx_cnd (fun _ _ _ _ _ _ _ _ => rfl) fx_no) (fx_cnd (fx_cnd (fun _ _ _ _ _ _ _ _ => rfl) fx_no) (fx_cnd (fun _ _ _ _ _ _ _ _ => rfl) fx_no)))) (fx_cnd (fx_cnd (fx_cnd (fun _ _ _ _ _ _ _ _ => rfl) fx_no) (fx_cnd (fun _ _ _ _ _ _ _ _ => rfl) fx_no)) (fx_cnd (fx_cnd (fun _ _ _ _ _ _ _ _ => rfl) fx_no) (fx_cnd (fx_cnd (fun _ _ _ _ _ _ _ _ => rfl) fx_no) (fx_cnd (fun _ _ _ _ _ _ _ _ => rfl) fx_no))))
theorem fk_189_5 (X : ez_X) (pc : Nat) : fx_ok X (ft_189_5 X pc) (ez_t189_5 pc) := by
  delta ft_189_5 ez_t189_5
  exact fx_cnd (fk_189_3 X pc) (fk_189_4 X pc)
theorem fk_189_6 (X : ez_X) (pc : Nat) : fx_ok X (ft_189_6 X pc) (ez_t189_6 pc) := by
  delta ft_189_6 ez_t189_6
  exact fx_cnd (fk_189_2 X pc) (fk_189_5 X pc)
theorem fk_189_7 (X : ez_X) (pc : Nat) : fx_ok X (ft_189_7 X pc) (ez_t189_7 pc) := by
  delta ft_189_7 ez_t189_7
  exact fx_cnd (fx_cnd (fx_cnd (fx_cnd (fun _ _ _ _ _ _ _ _ => rfl) fx_no) (fx_cnd (fun _ _ _ _ _ _ _ _ => rfl) fx_no)) (fx_cnd (fx_cnd (fun _ _ _ _ _ _ _ _ => rfl) fx_no) (fx_cnd (fun _ _ _ _ _ _ _ _ => rfl) fx_no))) (fx_cnd (fx_cnd (fx_cnd (fun _ _ _ _ _ _ _ _ => rfl) fx_no) (fx_cnd (fun _ _ _ _ _ _ _ _ => rfl) fx_no)) (fx_cnd (fx_cnd (fun _ _ _ _ _ _ _ _ => rfl) fx_no) (fx_cnd (fx_cnd (fun _ _ _ _ _ _ _ _ => rfl) fx_no) (fx_cnd (fun _ _ _ _ _ _ _ _ => rfl) fx_no))))
theorem fk_189_8 (X : ez_X) (pc : Nat) : fx_ok X (ft_189_8 X pc) (ez_t189_8 pc) := by
  delta ft_189_8 ez_t189_8
  exact fx_cnd (fx_cnd (fx_cnd (fx_cnd (fun _ _ _ _ _ _ _ _ => rfl) fx_no) (fx_cnd (fun _ _ _ _ _ _ _ _ => rfl) fx_no)) (fx_cnd (fx_cnd (fun _ _ _ _ _ _ _ _ => rfl) fx_no) (fx_cnd (fx_cnd (fun _ _ _ _ _ _ _ _ => rfl) fx_no) (fx_cnd (fun _ _ _ _ _ _ _ _ => rfl) fx_no)))) (fx_cnd (fx_cnd (fx_cnd (fun _ _ _ _ _ _ _ _ => rfl) fx_no) (fx_cnd (fun _ _ _ _ _ _ _ _ => rfl) fx_no)) (fx_cnd (fx_cnd (fun _ _ _ _ _ _ _ _ => rfl) fx_no) (fx_cnd (fx_cnd (fun _ _ _ _ _ _ _ _ => rfl) fx_no) (fx_cnd (fun _ _ _ _ _ _ _ _ => rfl) fx_no))))
theorem fk_189_9 (X : ez_X) (pc : Nat) : fx_ok X (ft_189_9 X pc) (ez_t189_9 pc) := by
  delta ft_189_9 ez_t189_9
  exact fx_cnd (fk_189_7 X pc) (fk_189_8 X pc)
theorem fk_189_10 (X : ez_X) (pc : Nat) : fx_ok X (ft_189_10 X pc) (ez_t189_10 pc) := by
  delta ft_189_10 ez_t189_10
  exact fx_cnd (fx_cnd (fx_cnd (fx_cnd (fun _ _ _ _ _ _ _ _ => rfl) fx_no) (fx_cnd (fun _ _ _ _ _ _ _ _ => rfl) fx_no)) (fx_cnd (fx_cnd (fun _ _ _ _ _ _ _ _ => rfl) fx_no) (fx_cnd (fun _ _ _ _ _ _ _ _ => rfl) fx_no))) (fx_cnd (fx_cnd (fx_cnd (fun _ _ _ _ _ _ _ _ => rfl) fx_no) (fx_cnd (fun _ _ _ _ _ _ _ _ => rfl) fx_no)) (fx_cnd (fx_cnd (fun _ _ _ _ _ _ _ _ => rfl) fx_no) (fx_cnd (fx_cnd (fun _ _ _ _ _ _ _ _ => rfl) fx_no) (fx_cnd (fun _ _ _ _ _ _ _ _ => rfl) fx_no))))
theorem fk_189_11 (X : ez_X) (pc : Nat) : fx_ok X (ft_189_11 X pc) (ez_t189_11 pc) := by
  delta ft_189_11 ez_t189_11
  exact fx_cnd (fx_cnd (fx_cnd (fx_cnd (fun _ _ _ _ _ _ _ _ => rfl) fx_no) (fx_cnd (fun _ _ _ _ _ _ _ _ => rfl) fx_no)) (fx_cnd (fx_cnd (fun _ _ _ _ _ _ _ _ => rfl) fx_no) (fx_cnd (fx_cnd (fun _ _ _ _ _ _ _ _ => rfl) fx_no) (fx_cnd (fun _ _ _ _ _ _ _ _ => rfl) fx_no)))) (fx_cnd (fx_cnd (fx_cnd (fun _ _ _ _ _ _ _ _ => rfl) fx_no) (fx_cnd (fun _ _ _ _ _ _ _ _ => rfl) fx_no)) (fx_cnd (fx_cnd (fun _ _ _ _ _ _ _ _ => rfl) fx_no) (fx_cnd (fx_cnd (fun _ _ _ _ _ _ _ _ => rfl) fx_no) (fx_cnd (fun _ _ _ _ _ _ _ _ => rfl) fx_no))))
theorem fk_189_12 (X : ez_X) (pc : Nat) : fx_ok X (ft_189_12 X pc) (ez_t189_12 pc) := by
  delta ft_189_12 ez_t189_12
  exact fx_cnd (fk_189_10 X pc) (fk_189_11 X pc)
theorem fk_189_13 (X : ez_X) (pc : Nat) : fx_ok X (ft_189_13 X pc) (ez_t189_13 pc) := by
  delta ft_189_13 ez_t189_13
  exact fx_cnd (fk_189_9 X pc) (fk_189_12 X pc)
theorem fk_189_14 (X : ez_X) (pc : Nat) : fx_ok X (ft_189_14 X pc) (ez_t189_14 pc) := by
  delta ft_189_14 ez_t189_14
  exact fx_cnd (fk_189_6 X pc) (fk_189_13 X pc)
theorem fk_189_15 (X : ez_X) (pc : Nat) : fx_ok X (ft_189_15 X pc) (ez_t189_15 pc) := by
  delta ft_189_15 ez_t189_15
  exact fx_cnd (fx_cnd (fx_cnd (fx_cnd (fun _ _ _ _ _ _ _ _ => rfl) fx_no) (fx_cnd (fun _ _ _ _ _ _ _ _ => rfl) fx_no)) (fx_cnd (fx_cnd (fun _ _ _ _ _ _ _ _ => rfl) fx_no) (fx_cnd (fun _ _ _ _ _ _ _ _ => rfl) fx_no))) (fx_cnd (fx_cnd (fx_cnd (fun _ _ _ _ _ _ _ _ => rfl) fx_no) (fx_cnd (fun _ _ _ _ _ _ _ _ => rfl) fx_no)) (fx_cnd (fx_cnd (fun _ _ _ _ _ _ _ _ => rfl) fx_no) (fx_cnd (fx_cnd (fun _ _ _ _ _ _ _ _ => rfl) fx_no) (fx_cnd (fun _ _ _ _ _ _ _ _ => rfl) fx_no))))
theorem fk_189_16 (X : ez_X) (pc : Nat) : fx_ok X (ft_189_16 X pc) (ez_t189_16 pc) := by
  delta ft_189_16 ez_t189_16
  exact fx_cnd (fx_cnd (fx_cnd (fx_cnd (fun _ _ _ _ _ _ _ _ => rfl) fx_no) (fx_cnd (fun _ _ _ _ _ _ _ _ => rfl) fx_no)) (fx_cnd (fx_cnd (fun _ _ _ _ _ _ _ _ => rfl) fx_no) (fx_cnd (fx_cnd (fun _ _ _ _ _ _ _ _ => rfl) fx_no) (fx_cnd (fun _ _ _ _ _ _ _ _ => rfl) fx_no)))) (fx_cnd (fx_cnd (fx_cnd (fun _ _ _ _ _ _ _ _ => rfl) fx_no) (fx_cnd (fun _ _ _ _ _ _ _ _ => rfl) fx_no)) (fx_cnd (fx_cnd (fun _ _ _ _ _ _ _ _ => rfl) fx_no) (fx_cnd (fx_cnd (fun _ _ _ _ _ _ _ _ => rfl) fx_no) (fx_cnd (fun _ _ _ _ _ _ _ _ => rfl) fx_no))))
theorem fk_189_17 (X : ez_X) (pc : Nat) : fx_ok X (ft_189_17 X pc) (ez_t189_17 pc) := by
  delta ft_189_17 ez_t189_17
  exact fx_cnd (fk_189_15 X pc) (fk_189_16 X pc)
theorem fk_189_18 (X : ez_X) (pc : Nat) : fx_ok X (ft_189_18 X pc) (ez_t189_18 pc) := by
  delta ft_189_18 ez_t189_18
  exact fx_cnd (fx_cnd (fx_cnd (fx_cnd (fun _ _ _ _ _ _ _ _ => rfl) fx_no) (fx_cnd (fun _ _ _ _ _ _ _ _ => rfl) fx_no)) (fx_cnd (fx_cnd (fun _ _ _ _ _ _ _ _ => rfl) fx_no) (fx_cnd (fun _ _ _ _ _ _ _ _ => rfl) fx_no))) (fx_cnd (fx_cnd (fx_cnd (fun _ _ _ _ _ _ _ _ => rfl) fx_no) (fx_cnd (fun _ _ _ _ _ _ _ _ => rfl) fx_no)) (fx_cnd (fx_cnd (fun _ _ _ _ _ _ _ _ => rfl) fx_no) (fx_cnd (fx_cnd (fun _ _ _ _ _ _ _ _ => rfl) fx_no) (fx_cnd (fun _ _ _ _ _ _ _ _ => rfl) fx_no))))
theorem fk_189_19 (X : ez_X) (pc : Nat) : fx_ok X (ft_189_19 X pc) (ez_t189_19 pc) := by
  delta ft_189_19 ez_t189_19
  exact fx_cnd (fx_cnd (fx_cnd (fx_cnd (fun _ _ _ _ _ _ _ _ => rfl) fx_no) (fx_cnd (fun _ _ _ _ _ _ _ _ => rfl) fx_no)) (fx_cnd (fx_cnd (fun _ _ _ _ _ _ _ _ => rfl) fx_no) (fx_cnd (fx_cnd (fun _ _ _ _ _ _ _ _ => rfl) fx_no) (fx_cnd (fun _ _ _ _ _ _ _ _ => rfl) fx_no)))) (fx_cnd (fx_cnd (fx_cnd (fun _ _ _ _ _ _ _ _ => rfl) fx_no) (fx_cnd (fun _ _ _ _ _ _ _ _ => rfl) fx_no)) (fx_cnd (fx_cnd (fun _ _ _ _ _ _ _ _ => rfl) fx_no) (fx_cnd (fx_cnd (fun _ _ _ _ _ _ _ _ => rfl) fx_no) (fx_cnd (fun _ _ _ _ _ _ _ _ => rfl) fx_no))))
theorem fk_189_20 (X : ez_X) (pc : Nat) : fx_ok X (ft_189_20 X pc) (ez_t189_20 pc) := by
  delta ft_189_20 ez_t189_20
  exact fx_cnd (fk_189_18 X pc) (fk_189_19 X pc)
theorem fk_189_21 (X : ez_X) (pc : Nat) : fx_ok X (ft_189_21 X pc) (ez_t189_21 pc) := by
  delta ft_189_21 ez_t189_21
  exact fx_cnd (fk_189_17 X pc) (fk_189_20 X pc)
theorem fk_189_22 (X : ez_X) (pc : Nat) : fx_ok X (ft_189_22 X pc) (ez_t189_22 pc) := by
  delta ft_189_22 ez_t189_22
  exact fx_cnd (fx_cnd (fx_cnd (fx_cnd (fun _ _ _ _ _ _ _ _ => rfl) fx_no) (fx_cnd (fun _ _ _ _ _ _ _ _ => rfl) fx_no)) (fx_cnd (fx_cnd (fun _ _ _ _ _ _ _ _ => rfl) fx_no) (fx_cnd (fun _ _ _ _ _ _ _ _ => rfl) fx_no))) (fx_cnd (fx_cnd (fx_cnd (fun _ _ _ _ _ _ _ _ => rfl) fx_no) (fx_cnd (fun _ _ _ _ _ _ _ _ => rfl) fx_no)) (fx_cnd (fx_cnd (fun _ _ _ _ _ _ _ _ => rfl) fx_no) (fx_cnd (fx_cnd (fun _ _ _ _ _ _ _ _ => rfl) fx_no) (fx_cnd (fun _ _ _ _ _ _ _ _ => rfl) fx_no))))
theorem fk_189_23 (X : ez_X) (pc : Nat) : fx_ok X (ft_189_23 X pc) (ez_t189_23 pc) := by
  delta ft_189_23 ez_t189_23
  exact fx_cnd (fx_cnd (fx_cnd (fx_cnd (fun _ _ _ _ _ _ _ _ => rfl) fx_no) (fx_cnd (fun _ _ _ _ _ _ _ _ => rfl) fx_no)) (fx_cnd (fx_cnd (fun _ _ _ _ _ _ _ _ => rfl) fx_no) (fx_cnd (fx_cnd (fun _ _ _ _ _ _ _ _ => rfl) fx_no) (fx_cnd (fun _ _ _ _ _ _ _ _ => rfl) fx_no)))) (fx_cnd (fx_cnd (fx_cnd (fun _ _ _ _ _ _ _ _ => rfl) fx_no) (fx_cnd (fun _ _ _ _ _ _ _ _ => rfl) fx_no)) (fx_cnd (fx_cnd (fun _ _ _ _ _ _ _ _ => rfl) fx_no) (fx_cnd (fx_cnd (fun _ _ _ _ _ _ _ _ => rfl) fx_no) (fx_cnd (fun _ _ _ _ _ _ _ _ => rfl) fx_no))))
theorem fk_189_24 (X : ez_X) (pc : Nat) : fx_ok X (ft_189_24 X pc) (ez_t189_24 pc) := by
  delta ft_189_24 ez_t189_24
  exact fx_cnd (fk_189_22 X pc) (fk_189_23 X pc)
theorem fk_189_25 (X : ez_X) (pc : Nat) : fx_ok X (ft_189_25 X pc) (ez_t189_25 pc) := by
  delta ft_189_25 ez_t189_25
  exact fx_cnd (fx_cnd (fx_cnd (fx_cnd (fun _ _ _ _ _ _ _ _ => rfl) fx_no) (fx_cnd (fun _ _ _ _ _ _ _ _ => rfl) fx_no)) (fx_cnd (fx_cnd (fun _ _ _ _ _ _ _ _ => rfl) fx_no) (fx_cnd (fun _ _ _ _ _ _ _ _ => rfl) fx_no))) (fx_cnd (fx_cnd (fx_cnd (fun _ _ _ _ _ _ _ _ => rfl) fx_no) (fx_cnd (fun _ _ _ _ _ _ _ _ => rfl) fx_no)) (fx_cnd (fx_cnd (fun _ _ _ _ _ _ _ _ => rfl) fx_no) (fx_cnd (fx_cnd (fun _ _ _ _ _ _ _ _ => rfl) fx_no) (fx_cnd (fun _ _ _ _ _ _ _ _ => rfl) fx_no))))
theorem fk_189_26 (X : ez_X) (pc : Nat) : fx_ok X (ft_189_26 X pc) (ez_t189_26 pc) := by
  delta ft_189_26 ez_t189_26
  exact fx_cnd (fx_cnd (fx_cnd (fx_cnd (fun _ _ _ _ _ _ _ _ => rfl) fx_no) (fx_cnd (fun _ _ _ _ _ _ _ _ => rfl) fx_no)) (fx_cnd (fx_cnd (fun _ _ _ _ _ _ _ _ => rfl) fx_no) (fx_cnd (fx_cnd (fun _ _ _ _ _ _ _ _ => rfl) fx_no) (fx_cnd (fun _ _ _ _ _ _ _ _ => rfl) fx_no)))) (fx_cnd (fx_cnd (fx_cnd (fun _ _ _ _ _ _ _ _ => rfl) fx_no) (fx_cnd (fun _ _ _ _ _ _ _ _ => rfl) fx_no)) (fx_cnd (fx_cnd (fun _ _ _ _ _ _ _ _ => rfl) fx_no) (fx_cnd (fx_cnd (fun _ _ _ _ _ _ _ _ => rfl) fx_no) (fx_cnd (fun _ _ _ _ _ _ _ _ => rfl) fx_no))))
theorem fk_189_27 (X : ez_X) (pc : Nat) : fx_ok X (ft_189_27 X pc) (ez_t189_27 pc) := by
  delta ft_189_27 ez_t189_27
  exact fx_cnd (fk_189_25 X pc) (fk_189_26 X pc)
theorem fk_189_28 (X : ez_X) (pc : Nat) : fx_ok X (ft_189_28 X pc) (ez_t189_28 pc) := by
  delta ft_189_28 ez_t189_28
  exact fx_cnd (fk_189_24 X pc) (fk_189_27 X pc)
theorem fk_189_29 (X : ez_X) (pc : Nat) : fx_ok X (ft_189_29 X pc) (ez_t189_29 pc) := by
  delta ft_189_29 ez_t189_29
  exact fx_cnd (fk_189_21 X pc) (fk_189_28 X pc)
theorem fk_189 (X : ez_X) (pc : Nat) : fx_ok X (ft_189 X pc) (ez_t189 pc) := by
  delta ft_189 ez_t189
  exact fx_cnd (fk_189_14 X pc) (fk_189_29 X pc)
theorem fk_190_0 (X : ez_X) (pc : Nat) : fx_ok X (ft_190_0 X pc) (ez_t190_0 pc) := by
  delta ft_190_0 ez_t190_0
  exact fx_cnd (fx_cnd (fx_cnd (fx_cnd (fun _ _ _ _ _ _ _ _ => rfl) fx_no) (fx_cnd (fun _ _ _ _ _ _ _ _ => rfl) fx_no)) (fx_cnd (fx_cnd (fun _ _ _ _ _ _ _ _ => rfl) fx_no) (fx_cnd (fx_cnd (fun _ _ _ _ _ _ _ _ => rfl) fx_no) (fx_cnd (fun _ _ _ _ _ _ _ _ => rfl) fx_no)))) (fx_cnd (fx_cnd (fx_cnd (fun _ _ _ _ _ _ _ _ => rfl) fx_no) (fx_cnd (fun _ _ _ _ _ _ _ _ => rfl) fx_no)) (fx_cnd (fx_cnd (fun _ _ _ _ _ _ _ _ => rfl) fx_no) (fx_cnd (fx_cnd (fun _ _ _ _ _ _ _ _ => rfl) fx_no) (fx_cnd (fun _ _ _ _ _ _ _ _ => rfl) fx_no))))
theorem fk_190_1 (X : ez_X) (pc : Nat) : fx_ok X (ft_190_1 X pc) (ez_t190_1 pc) := by
  delta ft_190_1 ez_t190_1
  exact fx_cnd (fx_cnd (fx_cnd (fx_cnd (fun _ _ _ _ _ _ _ _ => rfl) fx_no) (fx_cnd (fun _ _ _ _ _ _ _ _ => rfl) fx_no)) (fx_cnd (fx_cnd (fun _ _ _ _ _ _ _ _ => rfl) fx_no) (fx_cnd (fx_cnd (fun _ _ _ _ _ _ _ _ => rfl) fx_no) (fx_cnd (fun _ _ _ _ _ _ _ _ => rfl) fx_no)))) (fx_cnd (fx_cnd (fx_cnd (fun _ _ _ _ _ _ _ _ => rfl) fx_no) (fx_cnd (fx_cnd (fun _ _ _ _ _ _ _ _ => rfl) fx_no) (fx_cnd (fun _ _ _ _ _ _ _ _ => rfl) fx_no))) (fx_cnd (fx_cnd (fun _ _ _ _ _ _ _ _ => rfl) fx_no) (fx_cnd (fx_cnd (fun _ _ _ _ _ _ _ _ => rfl) fx_no) (fx_cnd (fun _ _ _ _ _ _ _ _ => rfl) fx_no))))
theorem fk_190_2 (X : ez_X) (pc : Nat) : fx_ok X (ft_190_2 X pc) (ez_t190_2 pc) := by
  delta ft_190_2 ez_t190_2
  exact fx_cnd (fk_190_0 X pc) (fk_190_1 X pc)
theorem fk_190_3 (X : ez_X) (pc : Nat) : fx_ok X (ft_190_3 X pc) (ez_t190_3 pc) := by
  delta ft_190_3 ez_t190_3
  exact fx_cnd (fx_cnd (fx_cnd (fx_cnd (fun _ _ _ _ _ _ _ _ => rfl) fx_no) (fx_cnd (fun _ _ _ _ _ _ _ _ => rfl) fx_no)) (fx_cnd (fx_cnd (fun _ _ _ _ _ _ _ _ => rfl) fx_no) (fx_cnd (fx_cnd (fun _ _ _ _ _ _ _ _ => rfl) fx_no) (fx_cnd (fun _ _ _ _ _ _ _ _ => rfl) fx_no)))) (fx_cnd (fx_cnd (fx_cnd (fun _ _ _ _ _ _ _ _ => rfl) fx_no) (fx_cnd (fun _ _ _ _ _ _ _ _ => rfl) fx_no)) (fx_cnd (fx_cnd (fun _ _ _ _ _ _ _ _ => rfl) fx_no) (fx_cnd (fx_cnd (fun _ _ _ _ _ _ _ _ => rfl) fx_no) (fx_cnd (fun _ _ _ _ _ _ _ _ => rfl) fx_no))))
theorem fk_190_4 (X : ez_X) (pc : Nat) : fx_ok X (ft_190_4 X pc) (ez_t190_4 pc) := by
  delta ft_190_4 ez_t190_4
  exact fx_cnd (fx_cnd (fx_cnd (fx_cnd (fun _ _ _ _ _ _ _ _ => rfl) fx_no) (fx_cnd (fun _ _ _ _ _ _ _ _ => rfl) fx_no)) (fx_cnd (fx_cnd (fun _ _ _ _ _ _ _ _ => rfl) fx_no) (fx_cnd (fx_cnd (fun _ _ _ _ _ _ _ _ => rfl) fx_no) (fx_cnd (fun _ _ _ _ _ _ _ _ => rfl) fx_no)))) (fx_cnd (fx_cnd (fx_cnd (fun _ _ _ _ _ _ _ _ => rfl) fx_no) (fx_cnd (fx_cnd (fun _ _ _ _ _ _ _ _ => rfl) fx_no) (fx_cnd (fun _ _ _ _ _ _ _ _ => rfl) fx_no))) (fx_cnd (fx_cnd (fun _ _ _ _ _ _ _ _ => rfl) fx_no) (fx_cnd (fx_cnd (fun _ _ _ _ _ _ _ _ => rfl) fx_no) (fx_cnd (fun _ _ _ _ _ _ _ _ => rfl) fx_no))))
theorem fk_190_5 (X : ez_X) (pc : Nat) : fx_ok X (ft_190_5 X pc) (ez_t190_5 pc) := by
  delta ft_190_5 ez_t190_5
  exact fx_cnd (fk_190_3 X pc) (fk_190_4 X pc)
theorem fk_190_6 (X : ez_X) (pc : Nat) : fx_ok X (ft_190_6 X pc) (ez_t190_6 pc) := by
  delta ft_190_6 ez_t190_6
  exact fx_cnd (fk_190_2 X pc) (fk_190_5 X pc)
theorem fk_190_7 (X : ez_X) (pc : Nat) : fx_ok X (ft_190_7 X pc) (ez_t190_7 pc) := by
  delta ft_190_7 ez_t190_7
  exact fx_cnd (fx_cnd (fx_cnd (fx_cnd (fun _ _ _ _ _ _ _ _ => rfl) fx_no) (fx_cnd (fun _ _ _ _ _ _ _ _ => rfl) fx_no)) (fx_cnd (fx_cnd (fun _ _ _ _ _ _ _ _ => rfl) fx_no) (fx_cnd (fx_cnd (fun _ _ _ _ _ _ _ _ => rfl) fx_no) (fx_cnd (fun _ _ _ _ _ _ _ _ => rfl) fx_no)))) (fx_cnd (fx_cnd (fx_cnd (fun _ _ _ _ _ _ _ _ => rfl) fx_no) (fx_cnd (fun _ _ _ _ _ _ _ _ => rfl) fx_no)) (fx_cnd (fx_cnd (fun _ _ _ _ _ _ _ _ => rfl) fx_no) (fx_cnd (fx_cnd (fun _ _ _ _ _ _ _ _ => rfl) fx_no) (fx_cnd (fun _ _ _ _ _ _ _ _ => rfl) fx_no))))
theorem fk_190_8 (X : ez_X) (pc : Nat) : fx_ok X (ft_190_8 X pc) (ez_t190_8 pc) := by
  delta ft_190_8 ez_t190_8
  exact fx_cnd (fx_cnd (fx_cnd (fx_cnd (fun _ _ _ _ _ _ _ _ => rfl) fx_no) (fx_cnd (fun _ _ _ _ _ _ _ _ => rfl) fx_no)) (fx_cnd (fx_cnd (fun _ _ _ _ _ _ _ _ => rfl) fx_no) (fx_cnd (fx_cnd (fun _ _ _ _ _ _ _ _ => rfl) fx_no) (fx_cnd (fun _ _ _ _ _ _ _ _ => rfl) fx_no)))) (fx_cnd (fx_cnd (fx_cnd (fun _ _ _ _ _ _ _ _ => rfl) fx_no) (fx_cnd (fx_cnd (fun _ _ _ _ _ _ _ _ => rfl) fx_no) (fx_cnd (fun _ _ _ _ _ _ _ _ => rfl) fx_no))) (fx_cnd (fx_cnd (fun _ _ _ _ _ _ _ _ => rfl) fx_no) (fx_cnd (fx_cnd (fun _ _ _ _ _ _ _ _ => rfl) fx_no) (fx_cnd (fun _ _ _ _ _ _ _ _ => rfl) fx_no))))
theorem fk_190_9 (X : ez_X) (pc : Nat) : fx_ok X (ft_190_9 X pc) (ez_t190_9 pc) := by
  delta ft_190_9 ez_t190_9
  exact fx_cnd (fk_190_7 X pc) (fk_190_8 X pc)
theorem fk_190_10 (X : ez_X) (pc : Nat) : fx_ok X (ft_190_10 X pc) (ez_t190_10 pc) := by
  delta ft_190_10 ez_t190_10
  exact fx_cnd (fx_cnd (fx_cnd (fx_cnd (fun _ _ _ _ _ _ _ _ => rfl) fx_no) (fx_cnd (fun _ _ _ _ _ _ _ _ => rfl) fx_no)) (fx_cnd (fx_cnd (fun _ _ _ _ _ _ _ _ => rfl) fx_no) (fx_cnd (fx_cnd (fun _ _ _ _ _ _ _ _ => rfl) fx_no) (fx_cnd (fun _ _ _ _ _ _ _ _ => rfl) fx_no)))) (fx_cnd (fx_cnd (fx_cnd (fun _ _ _ _ _ _ _ _ => rfl) fx_no) (fx_cnd (fun _ _ _ _ _ _ _ _ => rfl) fx_no)) (fx_cnd (fx_cnd (fun _ _ _ _ _ _ _ _ => rfl) fx_no) (fx_cnd (fx_cnd (fun _ _ _ _ _ _ _ _ => rfl) fx_no) (fx_cnd (fun _ _ _ _ _ _ _ _ => rfl) fx_no))))
theorem fk_190_11 (X : ez_X) (pc : Nat) : fx_ok X (ft_190_11 X pc) (ez_t190_11 pc) := by
  delta ft_190_11 ez_t190_11
  exact fx_cnd (fx_cnd (fx_cnd (fx_cnd (fun _ _ _ _ _ _ _ _ => rfl) fx_no) (fx_cnd (fun _ _ _ _ _ _ _ _ => rfl) fx_no)) (fx_cnd (fx_cnd (fun _ _ _ _ _ _ _ _ => rfl) fx_no) (fx_cnd (fx_cnd (fun _ _ _ _ _ _ _ _ => rfl) fx_no) (fx_cnd (fun _ _ _ _ _ _ _ _ => rfl) fx_no)))) (fx_cnd (fx_cnd (fx_cnd (fun _ _ _ _ _ _ _ _ => rfl) fx_no) (fx_cnd (fx_cnd (fun _ _ _ _ _ _ _ _ => rfl) fx_no) (fx_cnd (fun _ _ _ _ _ _ _ _ => rfl) fx_no))) (fx_cnd (fx_cnd (fun _ _ _ _ _ _ _ _ => rfl) fx_no) (fx_cnd (fx_cnd (fun _ _ _ _ _ _ _ _ => rfl) fx_no) (fx_cnd (fun _ _ _ _ _ _ _ _ => rfl) fx_no))))
theorem fk_190_12 (X : ez_X) (pc : Nat) : fx_ok X (ft_190_12 X pc) (ez_t190_12 pc) := by
  delta ft_190_12 ez_t190_12
  exact fx_cnd (fk_190_10 X pc) (fk_190_11 X pc)
theorem fk_190_13 (X : ez_X) (pc : Nat) : fx_ok X (ft_190_13 X pc) (ez_t190_13 pc) := by
  delta ft_190_13 ez_t190_13
  exact fx_cnd (fk_190_9 X pc) (fk_190_12 X pc)
theorem fk_190_14 (X : ez_X) (pc : Nat) : fx_ok X (ft_190_14 X pc) (ez_t190_14 pc) := by
  delta ft_190_14 ez_t190_14
  exact fx_cnd (fk_190_6 X pc) (fk_190_13 X pc)
theorem fk_190_15 (X : ez_X) (pc : Nat) : fx_ok X (ft_190_15 X pc) (ez_t190_15 pc) := by
  delta ft_190_15 ez_t190_15
  exact fx_cnd (fx_cnd (fx_cnd (fx_cnd (fun _ _ _ _ _ _ _ _ => rfl) fx_no) (fx_cnd (fun _ _ _ _ _ _ _ _ => rfl) fx_no)) (fx_cnd (fx_cnd (fun _ _ _ _ _ _ _ _ => rfl) fx_no) (fx_cnd (fx_cnd (fun _ _ _ _ _ _ _ _ => rfl) fx_no) (fx_cnd (fun _ _ _ _ _ _ _ _ => rfl) fx_no)))) (fx_cnd (fx_cnd (fx_cnd (fun _ _ _ _ _ _ _ _ => rfl) fx_no) (fx_cnd (fun _ _ _ _ _ _ _ _ => rfl) fx_no)) (fx_cnd (fx_cnd (fun _ _ _ _ _ _ _ _ => rfl) fx_no) (fx_cnd (fx_cnd (fun _ _ _ _ _ _ _ _ => rfl) fx_no) (fx_cnd (fun _ _ _ _ _ _ _ _ => rfl) fx_no))))
theorem fk_190_16 (X : ez_X) (pc : Nat) : fx_ok X (ft_190_16 X pc) (ez_t190_16 pc) := by
  delta ft_190_16 ez_t190_16
  exact fx_cnd (fx_cnd (fx_cnd (fx_cnd (fun _ _ _ _ _ _ _ _ => rfl) fx_no) (fx_cnd (fun _ _ _ _ _ _ _ _ => rfl) fx_no)) (fx_cnd (fx_cnd (fun _ _ _ _ _ _ _ _ => rfl) fx_no) (fx_cnd (fx_cnd (fun _ _ _ _ _ _ _ _ => rfl) fx_no) (fx_cnd (fun _ _ _ _ _ _ _ _ => rfl) fx_no)))) (fx_cnd (fx_cnd (fx_cnd (fun _ _ _ _ _ _ _ _ => rfl) fx_no) (fx_cnd (fx_cnd (fun _ _ _ _ _ _ _ _ => rfl) fx_no) (fx_cnd (fun _ _ _ _ _ _ _ _ => rfl) fx_no))) (fx_cnd (fx_cnd (fun _ _ _ _ _ _ _ _ => rfl) fx_no) (fx_cnd (fx_cnd (fun _ _ _ _ _ _ _ _ => rfl) fx_no) (fx_cnd (fun _ _ _ _ _ _ _ _ => rfl) fx_no))))
theorem fk_190_17 (X : ez_X) (pc : Nat) : fx_ok X (ft_190_17 X pc) (ez_t190_17 pc) := by
  delta ft_190_17 ez_t190_17
  exact fx_cnd (fk_190_15 X pc) (fk_190_16 X pc)
theorem fk_190_18 (X : ez_X) (pc : Nat) : fx_ok X (ft_190_18 X pc) (ez_t190_18 pc) := by
  delta ft_190_18 ez_t190_18
  exact fx_cnd (fx_cnd (fx_cnd (fx_cnd (fun _ _ _ _ _ _ _ _ => rfl) fx_no) (fx_cnd (fun _ _ _ _ _ _ _ _ => rfl) fx_no)) (fx_cnd (fx_cnd (fun _ _ _ _ _ _ _ _ => rfl) fx_no) (fx_cnd (fx_cnd (fun _ _ _ _ _ _ _ _ => rfl) fx_no) (fx_cnd (fun _ _ _ _ _ _ _ _ => rfl) fx_no)))) (fx_cnd (fx_cnd (fx_cnd (fun _ _ _ _ _ _ _ _ => rfl) fx_no) (fx_cnd (fun _ _ _ _ _ _ _ _ => rfl) fx_no)) (fx_cnd (fx_cnd (fun _ _ _ _ _ _ _ _ => rfl) fx_no) (fx_cnd (fx_cnd (fun _ _ _ _ _ _ _ _ => rfl) fx_no) (fx_cnd (fun _ _ _ _ _ _ _ _ => rfl) fx_no))))
theorem fk_190_19 (X : ez_X) (pc : Nat) : fx_ok X (ft_190_19 X pc) (ez_t190_19 pc) := by
  delta ft_190_19 ez_t190_19
  exact fx_cnd (fx_cnd (fx_cnd (fx_cnd (fun _ _ _ _ _ _ _ _ => rfl) fx_no) (fx_cnd (fun _ _ _ _ _ _ _ _ => rfl) fx_no)) (fx_cnd (fx_cnd (fun _ _ _ _ _ _ _ _ => rfl) fx_no) (fx_cnd (fx_cnd (fun _ _ _ _ _ _ _ _ => rfl) fx_no) (fx_cnd (fun _ _ _ _ _ _ _ _ => rfl) fx_no)))) (fx_cnd (fx_cnd (fx_cnd (fun _ _ _ _ _ _ _ _ => rfl) fx_no) (fx_cnd (fx_cnd (fun _ _ _ _ _ _ _ _ => rfl) fx_no) (fx_cnd (fun _ _ _ _ _ _ _ _ => rfl) fx_no))) (fx_cnd (fx_cnd (fun _ _ _ _ _ _ _ _ => rfl) fx_no) (fx_cnd (fx_cnd (fun _ _ _ _ _ _ _ _ => rfl) fx_no) (fx_cnd (fun _ _ _ _ _ _ _ _ => rfl) fx_no))))
theorem fk_190_20 (X : ez_X) (pc : Nat) : fx_ok X (ft_190_20 X pc) (ez_t190_20 pc) := by
  delta ft_190_20 ez_t190_20
  exact fx_cnd (fk_190_18 X pc) (fk_190_19 X pc)
theorem fk_190_21 (X : ez_X) (pc : Nat) : fx_ok X (ft_190_21 X pc) (ez_t190_21 pc) := by
  delta ft_190_21 ez_t190_21
  exact fx_cnd (fk_190_17 X pc) (fk_190_20 X pc)
theorem fk_190_22 (X : ez_X) (pc : Nat) : fx_ok X (ft_190_22 X pc) (ez_t190_22 pc) := by
  delta ft_190_22 ez_t190_22
  exact fx_cnd (fx_cnd (fx_cnd (fx_cnd (fun _ _ _ _ _ _ _ _ => rfl) fx_no) (fx_cnd (fun _ _ _ _ _ _ _ _ => rfl) fx_no)) (fx_cnd (fx_cnd (fun _ _ _ _ _ _ _ _ => rfl) fx_no) (fx_cnd (fx_cnd (fun _ _ _ _ _ _ _ _ => rfl) fx_no) (fx_cnd (fun _ _ _ _ _ _ _ _ => rfl) fx_no)))) (fx_cnd (fx_cnd (fx_cnd (fun _ _ _ _ _ _ _ _ => rfl) fx_no) (fx_cnd (fun _ _ _ _ _ _ _ _ => rfl) fx_no)) (fx_cnd (fx_cnd (fun _ _ _ _ _ _ _ _ => rfl) fx_no) (fx_cnd (fx_cnd (fun _ _ _ _ _ _ _ _ => rfl) fx_no) (fx_cnd (fun _ _ _ _ _ _ _ _ => rfl) fx_no))))
theorem fk_190_23 (X : ez_X) (pc : Nat) : fx_ok X (ft_190_23 X pc) (ez_t190_23 pc) := by
  delta ft_190_23 ez_t190_23
  exact fx_cnd (fx_cnd (fx_cnd (fx_cnd (fun _ _ _ _ _ _ _ _ => rfl) fx_no) (fx_cnd (fun _ _ _ _ _ _ _ _ => rfl) fx_no)) (fx_cnd (fx_cnd (fun _ _ _ _ _ _ _ _ => rfl) fx_no) (fx_cnd (fx_cnd (fun _ _ _ _ _ _ _ _ => rfl) fx_no) (fx_cnd (fun _ _ _ _ _ _ _ _ => rfl) fx_no)))) (fx_cnd (fx_cnd (fx_cnd (fun _ _ _ _ _ _ _ _ => rfl) fx_no) (fx_cnd (fx_cnd (fun _ _ _ _ _ _ _ _ => rfl) fx_no) (fx_cnd (fun _ _ _ _ _ _ _ _ => rfl) fx_no))) (fx_cnd (fx_cnd (fun _ _ _ _ _ _ _ _ => rfl) fx_no) (fx_cnd (fx_cnd (fun _ _ _ _ _ _ _ _ => rfl) fx_no) (fx_cnd (fun _ _ _ _ _ _ _ _ => rfl) fx_no))))
theorem fk_190_24 (X : ez_X) (pc : Nat) : fx_ok X (ft_190_24 X pc) (ez_t190_24 pc) := by
  delta ft_190_24 ez_t190_24
  exact fx_cnd (fk_190_22 X pc) (fk_190_23 X pc)
theorem fk_190_25 (X : ez_X) (pc : Nat) : fx_ok X (ft_190_25 X pc) (ez_t190_25 pc) := by
  delta ft_190_25 ez_t190_25
  exact fx_cnd (fx_cnd (fx_cnd (fx_cnd (fun _ _ _ _ _ _ _ _ => rfl) fx_no) (fx_cnd (fun _ _ _ _ _ _ _ _ => rfl) fx_no)) (fx_cnd (fx_cnd (fun _ _ _ _ _ _ _ _ => rfl) fx_no) (fx_cnd (fx_cnd (fun _ _ _ _ _ _ _ _ => rfl) fx_no) (fx_cnd (fun _ _ _ _ _ _ _ _ => rfl) fx_no)))) (fx_cnd (fx_cnd (fx_cnd (fun _ _ _ _ _ _ _ _ => rfl) fx_no) (fx_cnd (fun _ _ _ _ _ _ _ _ => rfl) fx_no)) (fx_cnd (fx_cnd (fun _ _ _ _ _ _ _ _ => rfl) fx_no) (fx_cnd (fx_cnd (fun _ _ _ _ _ _ _ _ => rfl) fx_no) (fx_cnd (fun _ _ _ _ _ _ _ _ => rfl) fx_no))))
theorem fk_190_26 (X : ez_X) (pc : Nat) : fx_ok X (ft_190_26 X pc) (ez_t190_26 pc) := by
  delta ft_190_26 ez_t190_26
  exact fx_cnd (fx_cnd (fx_cnd (fx_cnd (fun _ _ _ _ _ _ _ _ => rfl) fx_no) (fx_cnd (fun _ _ _ _ _ _ _ _ => rfl) fx_no)) (fx_cnd (fx_cnd (fun _ _ _ _ _ _ _ _ => rfl) fx_no) (fx_cnd (fx_cnd (fun _ _ _ _ _ _ _ _ => rfl) fx_no) (fx_cnd (fun _ _ _ _ _ _ _ _ => rfl) fx_no)))) (fx_cnd (fx_cnd (fx_cnd (fun _ _ _ _ _ _ _ _ => rfl) fx_no) (fx_cnd (fx_cnd (fun _ _ _ _ _ _ _ _ => rfl) fx_no) (fx_cnd (fun _ _ _ _ _ _ _ _ => rfl) fx_no))) (fx_cnd (fx_cnd (fun _ _ _ _ _ _ _ _ => rfl) fx_no) (fx_cnd (fx_cnd (fun _ _ _ _ _ _ _ _ => rfl) fx_no) (fx_cnd (fun _ _ _ _ _ _ _ _ => rfl) fx_no))))
theorem fk_190_27 (X : ez_X) (pc : Nat) : fx_ok X (ft_190_27 X pc) (ez_t190_27 pc) := by
  delta ft_190_27 ez_t190_27
  exact fx_cnd (fk_190_25 X pc) (fk_190_26 X pc)
theorem fk_190_28 (X : ez_X) (pc : Nat) : fx_ok X (ft_190_28 X pc) (ez_t190_28 pc) := by
  delta ft_190_28 ez_t190_28
  exact fx_cnd (fk_190_24 X pc) (fk_190_27 X pc)
theorem fk_190_29 (X : ez_X) (pc : Nat) : fx_ok X (ft_190_29 X pc) (ez_t190_29 pc) := by
  delta ft_190_29 ez_t190_29
  exact fx_cnd (fk_190_21 X pc) (fk_190_28 X pc)
theorem fk_190 (X : ez_X) (pc : Nat) : fx_ok X (ft_190 X pc) (ez_t190 pc) := by
  delta ft_190 ez_t190
  exact fx_cnd (fk_190_14 X pc) (fk_190_29 X pc)
theorem fk_191_0 (X : ez_X) (pc : Nat) : fx_ok X (ft_191_0 X pc) (ez_t191_0 pc) := by
  delta ft_191_0 ez_t191_0
  exact fx_cnd (fx_cnd (fx_cnd (fun _ _ _ _ _ _ _ _ => rfl) fx_no) (fx_cnd (fx_cnd (fun _ _ _ _ _ _ _ _ => rfl) fx_no) (fx_cnd (fun _ _ _ _ _ _ _ _ => rfl) fx_no))) (fx_cnd (fx_cnd (fx_cnd (fun _ _ _ _ _ _ _ _ => rfl) fx_no) (fx_cnd (fun _ _ _ _ _ _ _ _ => rfl) fx_no)) (fx_cnd (fx_cnd (fun _ _ _ _ _ _ _ _ => rfl) fx_no) (fx_cnd (fun _ _ _ _ _ _ _ _ => rfl) fx_no)))
theorem fk_191_1 (X : ez_X) (pc : Nat) : fx_ok X (ft_191_1 X pc) (ez_t191_1 pc) := by
  delta ft_191_1 ez_t191_1
  exact fx_cnd (fx_cnd (fx_cnd (fx_cnd (fun _ _ _ _ _ _ _ _ => rfl) fx_no) (fx_cnd (fun _ _ _ _ _ _ _ _ => rfl) fx_no)) (fx_cnd (fx_cnd (fun _ _ _ _ _ _ _ _ => rfl) fx_no) (fx_cnd (fun _ _ _ _ _ _ _ _ => rfl) fx_no))) (fx_cnd (fx_cnd (fx_cnd (fun _ _ _ _ _ _ _ _ => rfl) fx_no) (fx_cnd (fun _ _ _ _ _ _ _ _ => rfl) fx_no)) (fx_cnd (fx_cnd (fun _ _ _ _ _ _ _ _ => rfl) fx_no) (fx_cnd (fun _ _ _ _ _ _ _ _ => rfl) fx_no)))
theorem fk_191_2 (X : ez_X) (pc : Nat) : fx_ok X (ft_191_2 X pc) (ez_t191_2 pc) := by
  delta ft_191_2 ez_t191_2
  exact fx_cnd (fk_191_0 X pc) (fk_191_1 X pc)
theorem fk_191_3 (X : ez_X) (pc : Nat) : fx_ok X (ft_191_3 X pc) (ez_t191_3 pc) := by
  delta ft_191_3 ez_t191_3
  exact fx_cnd (fx_cnd (fx_cnd (fx_cnd (fun _ _ _ _ _ _ _ _ => rfl) fx_no) (fx_cnd (fun _ _ _ _ _ _ _ _ => rfl) fx_no)) (fx_cnd (fx_cnd (fun _ _ _ _ _ _ _ _ => rfl) fx_no) (fx_cnd (fun _ _ _ _ _ _ _ _ => rfl) fx_no))) (fx_cnd (fx_cnd (fx_cnd (fun _ _ _ _ _ _ _ _ => rfl) fx_no) (fx_cnd (fun _ _ _ _ _ _ _ _ => rfl) fx_no)) (fx_cnd (fx_cnd (fun _ _ _ _ _ _ _ _ => rfl) fx_no) (fx_cnd (fun _ _ _ _ _ _ _ _ => rfl) fx_no)))
theorem fk_191_4 (X : ez_X) (pc : Nat) : fx_ok X (ft_191_4 X pc) (ez_t191_4 pc) := by
  delta ft_191_4 ez_t191_4
  exact fx_cnd (fx_cnd (fx_cnd (fx_cnd (fun _ _ _ _ _ _ _ _ => rfl) fx_no) (fx_cnd (fun _ _ _ _ _ _ _ _ => rfl) fx_no)) (fx_cnd (fx_cnd (fun _ _ _ _ _ _ _ _ => rfl) fx_no) (fx_cnd (fun _ _ _ _ _ _ _ _ => rfl) fx_no))) (fx_cnd (fx_cnd (fx_cnd (fun _ _ _ _ _ _ _ _ => rfl) fx_no) (fx_cnd (fun _ _ _ _ _ _ _ _ => rfl) fx_no)) (fx_cnd (fx_cnd (fun _ _ _ _ _ _ _ _ => rfl) fx_no) (fx_cnd (fun _ _ _ _ _ _ _ _ => rfl) fx_no)))
theorem fk_191_5 (X : ez_X) (pc : Nat) : fx_ok X (ft_191_5 X pc) (ez_t191_5 pc) := by
  delta ft_191_5 ez_t191_5
  exact fx_cnd (fk_191_3 X pc) (fk_191_4 X pc)
theorem fk_191_6 (X : ez_X) (pc : Nat) : fx_ok X (ft_191_6 X pc) (ez_t191_6 pc) := by
  delta ft_191_6 ez_t191_6
  exact fx_cnd (fk_191_2 X pc) (fk_191_5 X pc)
theorem fk_191_7 (X : ez_X) (pc : Nat) : fx_ok X (ft_191_7 X pc) (ez_t191_7 pc) := by
  delta ft_191_7 ez_t191_7
  exact fx_cnd (fx_cnd (fx_cnd (fx_cnd (fun _ _ _ _ _ _ _ _ => rfl) fx_no) (fx_cnd (fun _ _ _ _ _ _ _ _ => rfl) fx_no)) (fx_cnd (fx_cnd (fun _ _ _ _ _ _ _ _ => rfl) fx_no) (fx_cnd (fun _ _ _ _ _ _ _ _ => rfl) fx_no))) (fx_cnd (fx_cnd (fx_cnd (fun _ _ _ _ _ _ _ _ => rfl) fx_no) (fx_cnd (fun _ _ _ _ _ _ _ _ => rfl) fx_no)) (fx_cnd (fx_cnd (fun _ _ _ _ _ _ _ _ => rfl) fx_no) (fx_cnd (fun _ _ _ _ _ _ _ _ => rfl) fx_no)))
theorem fk_191_8 (X : ez_X) (pc : Nat) : fx_ok X (ft_191_8 X pc) (ez_t191_8 pc) := by
  delta ft_191_8 ez_t191_8
  exact fx_cnd (fx_cnd (fx_cnd (fx_cnd (fun _ _ _ _ _ _ _ _ => rfl) fx_no) (fx_cnd (fun _ _ _ _ _ _ _ _ => rfl) fx_no)) (fx_cnd (fx_cnd (fun _ _ _ _ _ _ _ _ => rfl) fx_no) (fx_cnd (fun _ _ _ _ _ _ _ _ => rfl) fx_no))) (fx_cnd (fx_cnd (fx_cnd (fun _ _ _ _ _ _ _ _ => rfl) fx_no) (fx_cnd (fun _ _ _ _ _ _ _ _ => rfl) fx_no)) (fx_cnd (fx_cnd (fun _ _ _ _ _ _ _ _ => rfl) fx_no) (fx_cnd (fun _ _ _ _ _ _ _ _ => rfl) fx_no)))
theorem fk_191_9 (X : ez_X) (pc : Nat) : fx_ok X (ft_191_9 X pc) (ez_t191_9 pc) := by
  delta ft_191_9 ez_t191_9
  exact fx_cnd (fk_191_7 X pc) (fk_191_8 X pc)
theorem fk_191_10 (X : ez_X) (pc : Nat) : fx_ok X (ft_191_10 X pc) (ez_t191_10 pc) := by
  delta ft_191_10 ez_t191_10
  exact fx_cnd (fx_cnd (fx_cnd (fx_cnd (fun _ _ _ _ _ _ _ _ => rfl) fx_no) (fx_cnd (fun _ _ _ _ _ _ _ _ => rfl) fx_no)) (fx_cnd (fx_cnd (fun _ _ _ _ _ _ _ _ => rfl) fx_no) (fx_cnd (fun _ _ _ _ _ _ _ _ => rfl) fx_no))) (fx_cnd (fx_cnd (fx_cnd (fun _ _ _ _ _ _ _ _ => rfl) fx_no) (fx_cnd (fun _ _ _ _ _ _ _ _ => rfl) fx_no)) (fx_cnd (fx_cnd (fun _ _ _ _ _ _ _ _ => rfl) fx_no) (fx_cnd (fun _ _ _ _ _ _ _ _ => rfl) fx_no)))
theorem fk_191_11 (X : ez_X) (pc : Nat) : fx_ok X (ft_191_11 X pc) (ez_t191_11 pc) := by
  delta ft_191_11 ez_t191_11
  exact fx_cnd (fx_cnd (fx_cnd (fx_cnd (fun _ _ _ _ _ _ _ _ => rfl) fx_no) (fx_cnd (fun _ _ _ _ _ _ _ _ => rfl) fx_no)) (fx_cnd (fx_cnd (fun _ _ _ _ _ _ _ _ => rfl) fx_no) (fx_cnd (fun _ _ _ _ _ _ _ _ => rfl) fx_no))) (fx_cnd (fx_cnd (fx_cnd (fun _ _ _ _ _ _ _ _ => rfl) fx_no) (fx_cnd (fun _ _ _ _ _ _ _ _ => rfl) fx_no)) (fx_cnd (fx_cnd (fun _ _ _ _ _ _ _ _ => rfl) fx_no) (fx_cnd (fun _ _ _ _ _ _ _ _ => rfl) fx_no)))
theorem fk_191_12 (X : ez_X) (pc : Nat) : fx_ok X (ft_191_12 X pc) (ez_t191_12 pc) := by
  delta ft_191_12 ez_t191_12
  exact fx_cnd (fk_191_10 X pc) (fk_191_11 X pc)
theorem fk_191_13 (X : ez_X) (pc : Nat) : fx_ok X (ft_191_13 X pc) (ez_t191_13 pc) := by
  delta ft_191_13 ez_t191_13
  exact fx_cnd (fk_191_9 X pc) (fk_191_12 X pc)
theorem fk_191 (X : ez_X) (pc : Nat) : fx_ok X (ft_191 X pc) (ez_t191 pc) := by
  delta ft_191 ez_t191
  exact fx_cnd (fk_191_6 X pc) (fk_191_13 X pc)
theorem fk_192_0 (X : ez_X) (pc : Nat) : fx_ok X (ft_192_0 X pc) (ez_t192_0 pc) := by
  delta ft_192_0 ez_t192_0
  exact fx_cnd (fx_cnd (fx_cnd (fun _ _ _ _ _ _ _ _ => rfl) fx_no) (fx_cnd (fx_cnd (fun _ _ _ _ _ _ _ _ => rfl) fx_no) (fx_cnd (fun _ _ _ _ _ _ _ _ => rfl) fx_no))) (fx_cnd (fx_cnd (fx_cnd (fun _ _ _ _ _ _ _ _ => rfl) fx_no) (fx_cnd (fun _ _ _ _ _ _ _ _ => rfl) fx_no)) (fx_cnd (fx_cnd (fun _ _ _ _ _ _ _ _ => rfl) fx_no) (fx_cnd (fun _ _ _ _ _ _ _ _ => rfl) fx_no)))
theorem fk_192_1 (X : ez_X) (pc : Nat) : fx_ok X (ft_192_1 X pc) (ez_t192_1 pc) := by
  delta ft_192_1 ez_t192_1
  exact fx_cnd (fx_cnd (fx_cnd (fx_cnd (fun _ _ _ _ _ _ _ _ => rfl) fx_no) (fx_cnd (fun _ _ _ _ _ _ _ _ => rfl) fx_no)) (fx_cnd (fx_cnd (fun _ _ _ _ _ _ _ _ => rfl) fx_no) (fx_cnd (fun _ _ _ _ _ _ _ _ => rfl) fx_no))) (fx_cnd (fx_cnd (fx_cnd (fun _ _ _ _ _ _ _ _ => rfl) fx_no) (fx_cnd (fun _ _ _ _ _ _ _ _ => rfl) fx_no)) (fx_cnd (fx_cnd (fun _ _ _ _ _ _ _ _ => rfl) fx_no) (fx_cnd (fun _ _ _ _ _ _ _ _ => rfl) fx_no)))
theorem fk_192_2 (X : ez_X) (pc : Nat) : fx_ok X (ft_192_2 X pc) (ez_t192_2 pc) := by
  delta ft_192_2 ez_t192_2
  exact fx_cnd (fk_192_0 X pc) (fk_192_1 X pc)
theorem fk_192_3 (X : ez_X) (pc : Nat) : fx_ok X (ft_192_3 X pc) (ez_t192_3 pc) := by
  delta ft_192_3 ez_t192_3
  exact fx_cnd (fx_cnd (fx_cnd (fun _ _ _ _ _ _ _ _ => rfl) fx_no) (fx_cnd (fx_cnd (fun _ _ _ _ _ _ _ _ => rfl) fx_no) (fx_cnd (fun _ _ _ _ _ _ _ _ => rfl) fx_no))) (fx_cnd (fx_cnd (fx_cnd (fun _ _ _ _ _ _ _ _ => rfl) fx_no) (fx_cnd (fun _ _ _ _ _ _ _ _ => rfl) fx_no)) (fx_cnd (fx_cnd (fun _ _ _ _ _ _ _ _ => rfl) fx_no) (fx_cnd (fun _ _ _ _ _ _ _ _ => rfl) fx_no)))
theorem fk_192_4 (X : ez_X) (pc : Nat) : fx_ok X (ft_192_4 X pc) (ez_t192_4 pc) := by
  delta ft_192_4 ez_t192_4
  exact fx_cnd (fx_cnd (fx_cnd (fx_cnd (fun _ _ _ _ _ _ _ _ => rfl) fx_no) (fx_cnd (fun _ _ _ _ _ _ _ _ => rfl) fx_no)) (fx_cnd (fx_cnd (fun _ _ _ _ _ _ _ _ => rfl) fx_no) (fx_cnd (fun _ _ _ _ _ _ _ _ => rfl) fx_no))) (fx_cnd (fx_cnd (fx_cnd (fun _ _ _ _ _ _ _ _ => rfl) fx_no) (fx_cnd (fun _ _ _ _ _ _ _ _ => rfl) fx_no)) (fx_cnd (fx_cnd (fun _ _ _ _ _ _ _ _ => rfl) fx_no) (fx_cnd (fun _ _ _ _ _ _ _ _ => rfl) fx_no)))
theorem fk_192_5 (X : ez_X) (pc : Nat) : fx_ok X (ft_192_5 X pc) (ez_t192_5 pc) := by
  delta ft_192_5 ez_t192_5
  exact fx_cnd (fk_192_3 X pc) (fk_192_4 X pc)
theorem fk_192_6 (X : ez_X) (pc : Nat) : fx_ok X (ft_192_6 X pc) (ez_t192_6 pc) := by
  delta ft_192_6 ez_t192_6
  exact fx_cnd (fk_192_2 X pc) (fk_192_5 X pc)
theorem fk_192_7 (X : ez_X) (pc : Nat) : fx_ok X (ft_192_7 X pc) (ez_t192_7 pc) := by
  delta ft_192_7 ez_t192_7
  exact fx_cnd (fx_cnd (fx_cnd (fun _ _ _ _ _ _ _ _ => rfl) fx_no) (fx_cnd (fx_cnd (fun _ _ _ _ _ _ _ _ => rfl) fx_no) (fx_cnd (fun _ _ _ _ _ _ _ _ => rfl) fx_no))) (fx_cnd (fx_cnd (fx_cnd (fun _ _ _ _ _ _ _ _ => rfl) fx_no) (fx_cnd (fun _ _ _ _ _ _ _ _ => rfl) fx_no)) (fx_cnd (fx_cnd (fun _ _ _ _ _ _ _ _ => rfl) fx_no) (fx_cnd (fun _ _ _ _ _ _ _ _ => rfl) fx_no)))
theorem fk_192_8 (X : ez_X) (pc : Nat) : fx_ok X (ft_192_8 X pc) (ez_t192_8 pc) := by
  delta ft_192_8 ez_t192_8
  exact fx_cnd (fx_cnd (fx_cnd (fx_cnd (fun _ _ _ _ _ _ _ _ => rfl) fx_no) (fx_cnd (fun _ _ _ _ _ _ _ _ => rfl) fx_no)) (fx_cnd (fx_cnd (fun _ _ _ _ _ _ _ _ => rfl) fx_no) (fx_cnd (fun _ _ _ _ _ _ _ _ => rfl) fx_no))) (fx_cnd (fx_cnd (fx_cnd (fun _ _ _ _ _ _ _ _ => rfl) fx_no) (fx_cnd (fun _ _ _ _ _ _ _ _ => rfl) fx_no)) (fx_cnd (fx_cnd (fun _ _ _ _ _ _ _ _ => rfl) fx_no) (fx_cnd (fun _ _ _ _ _ _ _ _ => rfl) fx_no)))
theorem fk_192_9 (X : ez_X) (pc : Nat) : fx_ok X (ft_192_9 X pc) (ez_t192_9 pc) := by
  delta ft_192_9 ez_t192_9
  exact fx_cnd (fk_192_7 X pc) (fk_192_8 X pc)
theorem fk_192_10 (X : ez_X) (pc : Nat) : fx_ok X (ft_192_10 X pc) (ez_t192_10 pc) := by
  delta ft_192_10 ez_t192_10
  exact fx_cnd (fx_cnd (fx_cnd (fun _ _ _ _ _ _ _ _ => rfl) fx_no) (fx_cnd (fx_cnd (fun _ _ _ _ _ _ _ _ => rfl) fx_no) (fx_cnd (fun _ _ _ _ _ _ _ _ => rfl) fx_no))) (fx_cnd (fx_cnd (fx_cnd (fun _ _ _ _ _ _ _ _ => rfl) fx_no) (fx_cnd (fun _ _ _ _ _ _ _ _ => rfl) fx_no)) (fx_cnd (fx_cnd (fun _ _ _ _ _ _ _ _ => rfl) fx_no) (fx_cnd (fun _ _ _ _ _ _ _ _ => rfl) fx_no)))
theorem fk_192_11 (X : ez_X) (pc : Nat) : fx_ok X (ft_192_11 X pc) (ez_t192_11 pc) := by
  delta ft_192_11 ez_t192_11
  exact fx_cnd (fx_cnd (fx_cnd (fx_cnd (fun _ _ _ _ _ _ _ _ => rfl) fx_no) (fx_cnd (fun _ _ _ _ _ _ _ _ => rfl) fx_no)) (fx_cnd (fx_cnd (fun _ _ _ _ _ _ _ _ => rfl) fx_no) (fx_cnd (fun _ _ _ _ _ _ _ _ => rfl) fx_no))) (fx_cnd (fx_cnd (fx_cnd (fun _ _ _ _ _ _ _ _ => rfl) fx_no) (fx_cnd (fun _ _ _ _ _ _ _ _ => rfl) fx_no)) (fx_cnd (fx_cnd (fun _ _ _ _ _ _ _ _ => rfl) fx_no) (fx_cnd (fun _ _ _ _ _ _ _ _ => rfl) fx_no)))
theorem fk_192_12 (X : ez_X) (pc : Nat) : fx_ok X (ft_192_12 X pc) (ez_t192_12 pc) := by
  delta ft_192_12 ez_t192_12
  exact fx_cnd (fk_192_10 X pc) (fk_192_11 X pc)
theorem fk_192_13 (X : ez_X) (pc : Nat) : fx_ok X (ft_192_13 X pc) (ez_t192_13 pc) := by
  delta ft_192_13 ez_t192_13
  exact fx_cnd (fk_192_9 X pc) (fk_192_12 X pc)
theorem fk_192 (X : ez_X) (pc : Nat) : fx_ok X (ft_192 X pc) (ez_t192 pc) := by
  delta ft_192 ez_t192
  exact fx_cnd (fk_192_6 X pc) (fk_192_13 X pc)
theorem fk_193_0 (X : ez_X) (pc : Nat) : fx_ok X (ft_193_0 X pc) (ez_t193_0 pc) := by
  delta ft_193_0 ez_t193_0
  exact fx_cnd (fx_cnd (fx_cnd (fx_cnd (fun _ _ _ _ _ _ _ _ => rfl) fx_no) (fx_cnd (fun _ _ _ _ _ _ _ _ => rfl) fx_no)) (fx_cnd (fx_cnd (fun _ _ _ _ _ _ _ _ => rfl) fx_no) (fx_cnd (fx_cnd (fun _ _ _ _ _ _ _ _ => rfl) fx_no) (fx_cnd (fun _ _ _ _ _ _ _ _ => rfl) fx_no)))) (fx_cnd (fx_cnd (fx_cnd (fun _ _ _ _ _ _ _ _ => rfl) fx_no) (fx_cnd (fx_cnd (fun _ _ _ _ _ _ _ _ => rfl) fx_no) (fx_cnd (fun _ _ _ _ _ _ _ _ => rfl) fx_no))) (fx_cnd (fx_cnd (fun _ _ _ _ _ _ _ _ => rfl) fx_no) (fx_cnd (fx_cnd (fun _ _ _ _ _ _ _ _ => rfl) fx_no) (fx_cnd (fun _ _ _ _ _ _ _ _ => rfl) fx_no))))
theorem fk_193_1 (X : ez_X) (pc : Nat) : fx_ok X (ft_193_1 X pc) (ez_t193_1 pc) := by
  delta ft_193_1 ez_t193_1
  exact fx_cnd (fx_cnd (fx_cnd (fx_cnd (fun _ _ _ _ _ _ _ _ => rfl) fx_no) (fx_cnd (fun _ _ _ _ _ _ _ _ => rfl) fx_no)) (fx_cnd (fx_cnd (fun _ _ _ _ _ _ _ _ => rfl) fx_no) (fx_cnd (fx_cnd (fun _ _ _ _ _ _ _ _ => rfl) fx_no) (fx_cnd (fun _ _ _ _ _ _ _ _ => rfl) fx_no)))) (fx_cnd (fx_cnd (fx_cnd (fun _ _ _ _ _ _ _ _ => rfl) fx_no) (fx_cnd (fx_cnd (fun _ _ _ _ _ _ _ _ => rfl) fx_no) (fx_cnd (fun _ _ _ _ _ _ _ _ => rfl) fx_no))) (fx_cnd (fx_cnd (fun _ _ _ _ _ _ _ _ => rfl) fx_no) (fx_cnd (fx_cnd (fun _ _ _ _ _ _ _ _ => rfl) fx_no) (fx_cnd (fun _ _ _ _ _ _ _ _ => rfl) fx_no))))
theorem fk_193_2 (X : ez_X) (pc : Nat) : fx_ok X (ft_193_2 X pc) (ez_t193_2 pc) := by
  delta ft_193_2 ez_t193_2
  exact fx_cnd (fk_193_0 X pc) (fk_193_1 X pc)
theorem fk_193_3 (X : ez_X) (pc : Nat) : fx_ok X (ft_193_3 X pc) (ez_t193_3 pc) := by
  delta ft_193_3 ez_t193_3
  exact fx_cnd (fx_cnd (fx_cnd (fx_cnd (fun _ _ _ _ _ _ _ _ => rfl) fx_no) (fx_cnd (fun _ _ _ _ _ _ _ _ => rfl) fx_no)) (fx_cnd (fx_cnd (fun _ _ _ _ _ _ _ _ => rfl) fx_no) (fx_cnd (fx_cnd (fun _ _ _ _ _ _ _ _ => rfl) fx_no) (fx_cnd (fun _ _ _ _ _ _ _ _ => rfl) fx_no)))) (fx_cnd (fx_cnd (fx_cnd (fun _ _ _ _ _ _ _ _ => rfl) fx_no) (fx_cnd (fx_cnd (fun _ _ _ _ _ _ _ _ => rfl) fx_no) (fx_cnd (fun _ _ _ _ _ _ _ _ => rfl) fx_no))) (fx_cnd (fx_cnd (fun _ _ _ _ _ _ _ _ => rfl) fx_no) (fx_cnd (fx_cnd (fun _ _ _ _ _ _ _ _ => rfl) fx_no) (fx_cnd (fun _ _ _ _ _ _ _ _ => rfl) fx_no))))
theorem fk_193_4 (X : ez_X) (pc : Nat) : fx_ok X (ft_193_4 X pc) (ez_t193_4 pc) := by
  delta ft_193_4 ez_t193_4
  exact fx_cnd (fx_cnd (fx_cnd (fx_cnd (fun _ _ _ _ _ _ _ _ => rfl) fx_no) (fx_cnd (fun _ _ _ _ _ _ _ _ => rfl) fx_no)) (fx_cnd (fx_cnd (fun _ _ _ _ _ _ _ _ => rfl) fx_no) (fx_cnd (fx_cnd (fun _ _ _ _ _ _ _ _ => rfl) fx_no) (fx_cnd (fun _ _ _ _ _ _ _ _ => rfl) fx_no)))) (fx_cnd (fx_cnd (fx_cnd (fun _ _ _ _ _ _ _ _ => rfl) fx_no) (fx_cnd (fx_cnd (fun _ _ _ _ _ _ _ _ => rfl) fx_no) (fx_cnd (fun _ _ _ _ _ _ _ _ => rfl) fx_no))) (fx_cnd (fx_cnd (fun _ _ _ _ _ _ _ _ => rfl) fx_no) (fx_cnd (fx_cnd (fun _ _ _ _ _ _ _ _ => rfl) fx_no) (fx_cnd (fun _ _ _ _ _ _ _ _ => rfl) fx_no))))
theorem fk_193_5 (X : ez_X) (pc : Nat) : fx_ok X (ft_193_5 X pc) (ez_t193_5 pc) := by
  delta ft_193_5 ez_t193_5
  exact fx_cnd (fk_193_3 X pc) (fk_193_4 X pc)
theorem fk_193_6 (X : ez_X) (pc : Nat) : fx_ok X (ft_193_6 X pc) (ez_t193_6 pc) := by
  delta ft_193_6 ez_t193_6
  exact fx_cnd (fk_193_2 X pc) (fk_193_5 X pc)
theorem fk_193_7 (X : ez_X) (pc : Nat) : fx_ok X (ft_193_7 X pc) (ez_t193_7 pc) := by
  delta ft_193_7 ez_t193_7
  exact fx_cnd (fx_cnd (fx_cnd (fx_cnd (fun _ _ _ _ _ _ _ _ => rfl) fx_no) (fx_cnd (fun _ _ _ _ _ _ _ _ => rfl) fx_no)) (fx_cnd (fx_cnd (fun _ _ _ _ _ _ _ _ => rfl) fx_no) (fx_cnd (fx_cnd (fun _ _ _ _ _ _ _ _ => rfl) fx_no) (fx_cnd (fun _ _ _ _ _ _ _ _ => rfl) fx_no)))) (fx_cnd (fx_cnd (fx_cnd (fun _ _ _ _ _ _ _ _ => rfl) fx_no) (fx_cnd (fx_cnd (fun _ _ _ _ _ _ _ _ => rfl) fx_no) (fx_cnd (fun _ _ _ _ _ _ _ _ => rfl) fx_no))) (fx_cnd (fx_cnd (fun _ _ _ _ _ _ _ _ => rfl) fx_no) (fx_cnd (fx_cnd (fun _ _ _ _ _ _ _ _ => rfl) fx_no) (fx_cnd (fun _ _ _ _ _ _ _ _ => rfl) fx_no))))
theorem fk_193_8 (X : ez_X) (pc : Nat) : fx_ok X (ft_193_8 X pc) (ez_t193_8 pc) := by
  delta ft_193_8 ez_t193_8
  exact fx_cnd (fx_cnd (fx_cnd (fx_cnd (fun _ _ _ _ _ _ _ _ => rfl) fx_no) (fx_cnd (fun _ _ _ _ _ _ _ _ => rfl) fx_no)) (fx_cnd (fx_cnd (fun _ _ _ _ _ _ _ _ => rfl) fx_no) (fx_cnd (fx_cnd (fun _ _ _ _ _ _ _ _ => rfl) fx_no) (fx_cnd (fun _ _ _ _ _ _ _ _ => rfl) fx_no)))) (fx_cnd (fx_cnd (fx_cnd (fun _ _ _ _ _ _ _ _ => rfl) fx_no) (fx_cnd (fx_cnd (fun _ _ _ _ _ _ _ _ => rfl) fx_no) (fx_cnd (fun _ _ _ _ _ _ _ _ => rfl) fx_no))) (fx_cnd (fx_cnd (fun _ _ _ _ _ _ _ _ => rfl) fx_no) (fx_cnd (fx_cnd (fun _ _ _ _ _ _ _ _ => rfl) fx_no) (fx_cnd (fun _ _ _ _ _ _ _ _ => rfl) fx_no))))
theorem fk_193_9 (X : ez_X) (pc : Nat) : fx_ok X (ft_193_9 X pc) (ez_t193_9 pc) := by
  delta ft_193_9 ez_t193_9
  exact fx_cnd (fk_193_7 X pc) (fk_193_8 X pc)
theorem fk_193_10 (X : ez_X) (pc : Nat) : fx_ok X (ft_193_10 X pc) (ez_t193_10 pc) := by
  delta ft_193_10 ez_t193_10
  exact fx_cnd (fx_cnd (fx_cnd (fx_cnd (fun _ _ _ _ _ _ _ _ => rfl) fx_no) (fx_cnd (fun _ _ _ _ _ _ _ _ => rfl) fx_no)) (fx_cnd (fx_cnd (fun _ _ _ _ _ _ _ _ => rfl) fx_no) (fx_cnd (fx_cnd (fun _ _ _ _ _ _ _ _ => rfl) fx_no) (fx_cnd (fun _ _ _ _ _ _ _ _ => rfl) fx_no)))) (fx_cnd (fx_cnd (fx_cnd (fun _ _ _ _ _ _ _ _ => rfl) fx_no) (fx_cnd (fx_cnd (fun _ _ _ _ _ _ _ _ => rfl) fx_no) (fx_cnd (fun _ _ _ _ _ _ _ _ => rfl) fx_no))) (fx_cnd (fx_cnd (fun _ _ _ _ _ _ _ _ => rfl) fx_no) (fx_cnd (fx_cnd (fun _ _ _ _ _ _ _ _ => rfl) fx_no) (fx_cnd (fun _ _ _ _ _ _ _ _ => rfl) fx_no))))
theorem fk_193_11 (X : ez_X) (pc : Nat) : fx_ok X (ft_193_11 X pc) (ez_t193_11 pc) := by
  delta ft_193_11 ez_t193_11
  exact fx_cnd (fx_cnd (fx_cnd (fx_cnd (fun _ _ _ _ _ _ _ _ => rfl) fx_no) (fx_cnd (fx_cnd (fun _ _ _ _ _ _ _ _ => rfl) fx_no) (fx_cnd (fun _ _ _ _ _ _ _ _ => rfl) fx_no))) (fx_cnd (fx_cnd (fun _ _ _ _ _ _ _ _ => rfl) fx_no) (fx_cnd (fx_cnd (fun _ _ _ _ _ _ _ _ => rfl) fx_no) (fx_cnd (fun _ _ _ _ _ _ _ _ => rfl) fx_no)))) (fx_cnd (fx_cnd (fx_cnd (fun _ _ _ _ _ _ _ _ => rfl) fx_no) (fx_cnd (fx_cnd (fun _ _ _ _ _ _ _ _ => rfl) fx_no) (fx_cnd (fun _ _ _ _ _ _ _ _ => rfl) fx_no))) (fx_cnd (fx_cnd (fun _ _ _ _ _ _ _ _ => rfl) fx_no) (fx_cnd (fx_cnd (fun _ _ _ _ _ _ _ _ => rfl) fx_no) (fx_cnd (fun _ _ _ _ _ _ _ _ => rfl) fx_no))))
theorem fk_193_12 (X : ez_X) (pc : Nat) : fx_ok X (ft_193_12 X pc) (ez_t193_12 pc) := by
  delta ft_193_12 ez_t193_12
  exact fx_cnd (fk_193_10 X pc) (fk_193_11 X pc)
theorem fk_193_13 (X : ez_X) (pc : Nat) : fx_ok X (ft_193_13 X pc) (ez_t193_13 pc) := by
  delta ft_193_13 ez_t193_13
  exact fx_cnd (fk_193_9 X pc) (fk_193_12 X pc)
theorem fk_193 (X : ez_X) (pc : Nat) : fx_ok X (ft_193 X pc) (ez_t193 pc) := by
  delta ft_193 ez_t193
  exact fx_cnd (fk_193_6 X pc) (fk_193_13 X pc)
theorem fk_194_0 (X : ez_X) (pc : Nat) : fx_ok X (ft_194_0 X pc) (ez_t194_0 pc) := by
  delta ft_194_0 ez_t194_0
  exact fx_cnd (fx_cnd (fx_cnd (fx_cnd (fun _ _ _ _ _ _ _ _ => rfl) fx_no) (fx_cnd (fun _ _ _ _ _ _ _ _ => rfl) fx_no)) (fx_cnd (fx_cnd (fun _ _ _ _ _ _ _ _ => rfl) fx_no) (fx_cnd (fx_cnd (fun _ _ _ _ _ _ _ _ => rfl) fx_no) (fx_cnd (fun _ _ _ _ _ _ _ _ => rfl) fx_no)))) (fx_cnd (fx_cnd (fx_cnd (fun _ _ _ _ _ _ _ _ => rfl) fx_no) (fx_cnd (fun _ _ _ _ _ _ _ _ => rfl) fx_no)) (fx_cnd (fx_cnd (fun _ _ _ _ _ _ _ _ => rfl) fx_no) (fx_cnd (fx_cnd (fun _ _ _ _ _ _ _ _ => rfl) fx_no) (fx_cnd (fun _ _ _ _ _ _ _ _ => rfl) fx_no))))
theorem fk_194_1 (X : ez_X) (pc : Nat) : fx_ok X (ft_194_1 X pc) (ez_t194_1 pc) := by
  delta ft_194_1 ez_t194_1
  exact fx_cnd (fx_cnd (fx_cnd (fx_cnd (fun _ _ _ _ _ _ _ _ => rfl) fx_no) (fx_cnd (fun _ _ _ _ _ _ _ _ => rfl) fx_no)) (fx_cnd (fx_cnd (fun _ _ _ _ _ _ _ _ => rfl) fx_no) (fx_cnd (fx_cnd (fun _ _ _ _ _ _ _ _ => rfl) fx_no) (fx_cnd (fun _ _ _ _ _ _ _ _ => rfl) fx_no)))) (fx_cnd (fx_cnd (fx_cnd (fun _ _ _ _ _ _ _ _ => rfl) fx_no) (fx_cnd (fun _ _ _ _ _ _ _ _ => rfl) fx_no)) (fx_cnd (fx_cnd (fun _ _ _ _ _ _ _ _ => rfl) fx_no) (fx_cnd (fx_cnd (fun _ _ _ _ _ _ _ _ => rfl) fx_no) (fx_cnd (fun _ _ _ _ _ _ _ _ => rfl) fx_no))))
theorem fk_194_2 (X : ez_X) (pc : Nat) : fx_ok X (ft_194_2 X pc) (ez_t194_2 pc) := by
  delta ft_194_2 ez_t194_2
  exact fx_cnd (fk_194_0 X pc) (fk_194_1 X pc)
theorem fk_194_3 (X : ez_X) (pc : Nat) : fx_ok X (ft_194_3 X pc) (ez_t194_3 pc) := by
  delta ft_194_3 ez_t194_3
  exact fx_cnd (fx_cnd (fx_cnd (fx_cnd (fun _ _ _ _ _ _ _ _ => rfl) fx_no) (fx_cnd (fun _ _ _ _ _ _ _ _ => rfl) fx_no)) (fx_cnd (fx_cnd (fun _ _ _ _ _ _ _ _ => rfl) fx_no) (fx_cnd (fx_cnd (fun _ _ _ _ _ _ _ _ => rfl) fx_no) (fx_cnd (fun _ _ _ _ _ _ _ _ => rfl) fx_no)))) (fx_cnd (fx_cnd (fx_cnd (fun _ _ _ _ _ _ _ _ => rfl) fx_no) (fx_cnd (fun _ _ _ _ _ _ _ _ => rfl) fx_no)) (fx_cnd (fx_cnd (fun _ _ _ _ _ _ _ _ => rfl) fx_no) (fx_cnd (fx_cnd (fun _ _ _ _ _ _ _ _ => rfl) fx_no) (fx_cnd (fun _ _ _ _ _ _ _ _ => rfl) fx_no))))
theorem fk_194_4 (X : ez_X) (pc : Nat) : fx_ok X (ft_194_4 X pc) (ez_t194_4 pc) := by
  delta ft_194_4 ez_t194_4
  exact fx_cnd (fx_cnd (fx_cnd (fx_cnd (fun _ _ _ _ _ _ _ _ => rfl) fx_no) (fx_cnd (fun _ _ _ _ _ _ _ _ => rfl) fx_no)) (fx_cnd (fx_cnd (fun _ _ _ _ _ _ _ _ => rfl) fx_no) (fx_cnd (fx_cnd (fun _ _ _ _ _ _ _ _ => rfl) fx_no) (fx_cnd (fun _ _ _ _ _ _ _ _ => rfl) fx_no)))) (fx_cnd (fx_cnd (fx_cnd (fun _ _ _ _ _ _ _ _ => rfl) fx_no) (fx_cnd (fun _ _ _ _ _ _ _ _ => rfl) fx_no)) (fx_cnd (fx_cnd (fun _ _ _ _ _ _ _ _ => rfl) fx_no) (fx_cnd (fx_cnd (fun _ _ _ _ _ _ _ _ => rfl) fx_no) (fx_cnd (fun _ _ _ _ _ _ _ _ => rfl) fx_no))))
theorem fk_194_5 (X : ez_X) (pc : Nat) : fx_ok X (ft_194_5 X pc) (ez_t194_5 pc) := by
  delta ft_194_5 ez_t194_5
  exact fx_cnd (fk_194_3 X pc) (fk_194_4 X pc)
theorem fk_194_6 (X : ez_X) (pc : Nat) : fx_ok X (ft_194_6 X pc) (ez_t194_6 pc) := by
  delta ft_194_6 ez_t194_6
  exact fx_cnd (fk_194_2 X pc) (fk_194_5 X pc)
theorem fk_194_7 (X : ez_X) (pc : Nat) : fx_ok X (ft_194_7 X pc) (ez_t194_7 pc) := by
  delta ft_194_7 ez_t194_7
  exact fx_cnd (fx_cnd (fx_cnd (fx_cnd (fun _ _ _ _ _ _ _ _ => rfl) fx_no) (fx_cnd (fun _ _ _ _ _ _ _ _ => rfl) fx_no)) (fx_cnd (fx_cnd (fun _ _ _ _ _ _ _ _ => rfl) fx_no) (fx_cnd (fx_cnd (fun _ _ _ _ _ _ _ _ => rfl) fx_no) (fx_cnd (fun _ _ _ _ _ _ _ _ => rfl) fx_no)))) (fx_cnd (fx_cnd (fx_cnd (fun _ _ _ _ _ _ _ _ => rfl) fx_no) (fx_cnd (fun _ _ _ _ _ _ _ _ => rfl) fx_no)) (fx_cnd (fx_cnd (fun _ _ _ _ _ _ _ _ => rfl) fx_no) (fx_cnd (fx_cnd (fun _ _ _ _ _ _ _ _ => rfl) fx_no) (fx_cnd (fun _ _ _ _ _ _ _ _ => rfl) fx_no))))
theorem fk_194_8 (X : ez_X) (pc : Nat) : fx_ok X (ft_194_8 X pc) (ez_t194_8 pc) := by
  delta ft_194_8 ez_t194_8
  exact fx_cnd (fx_cnd (fx_cnd (fx_cnd (fun _ _ _ _ _ _ _ _ => rfl) fx_no) (fx_cnd (fun _ _ _ _ _ _ _ _ => rfl) fx_no)) (fx_cnd (fx_cnd (fun _ _ _ _ _ _ _ _ => rfl) fx_no) (fx_cnd (fx_cnd (fun _ _ _ _ _ _ _ _ => rfl) fx_no) (fx_cnd (fun _ _ _ _ _ _ _ _ => rfl) fx_no)))) (fx_cnd (fx_cnd (fx_cnd (fun _ _ _ _ _ _ _ _ => rfl) fx_no) (fx_cnd (fun _ _ _ _ _ _ _ _ => rfl) fx_no)) (fx_cnd (fx_cnd (fun _ _ _ _ _ _ _ _ => rfl) fx_no) (fx_cnd (fx_cnd (fun _ _ _ _ _ _ _ _ => rfl) fx_no) (fx_cnd (fun _ _ _ _ _ _ _ _ => rfl) fx_no))))
theorem fk_194_9 (X : ez_X) (pc : Nat) : fx_ok X (ft_194_9 X pc) (ez_t194_9 pc) := by
  delta ft_194_9 ez_t194_9
  exact fx_cnd (fk_194_7 X pc) (fk_194_8 X pc)
theorem fk_194_10 (X : ez_X) (pc : Nat) : fx_ok X (ft_194_10 X pc) (ez_t194_10 pc) := by
  delta ft_194_10 ez_t194_10
  exact fx_cnd (fx_cnd (fx_cnd (fx_cnd (fun _ _ _ _ _ _ _ _ => rfl) fx_no) (fx_cnd (fun _ _ _ _ _ _ _ _ => rfl) fx_no)) (fx_cnd (fx_cnd (fun _ _ _ _ _ _ _ _ => rfl) fx_no) (fx_cnd (fx_cnd (fun _ _ _ _ _ _ _ _ => rfl) fx_no) (fx_cnd (fun _ _ _ _ _ _ _ _ => rfl) fx_no)))) (fx_cnd (fx_cnd (fx_cnd (fun _ _ _ _ _ _ _ _ => rfl) fx_no) (fx_cnd (fun _ _ _ _ _ _ _ _ => rfl) fx_no)) (fx_cnd (fx_cnd (fun _ _ _ _ _ _ _ _ => rfl) fx_no) (fx_cnd (fx_cnd (fun _ _ _ _ _ _ _ _ => rfl) fx_no) (fx_cnd (fun _ _ _ _ _ _ _ _ => rfl) fx_no))))
theorem fk_194_11 (X : ez_X) (pc : Nat) : fx_ok X (ft_194_11 X pc) (ez_t194_11 pc) := by
  delta ft_194_11 ez_t194_11
  exact fx_cnd (fx_cnd (fx_cnd (fx_cnd (fun _ _ _ _ _ _ _ _ => rfl) fx_no) (fx_cnd (fun _ _ _ _ _ _ _ _ => rfl) fx_no)) (fx_cnd (fx_cnd (fun _ _ _ _ _ _ _ _ => rfl) fx_no) (fx_cnd (fx_cnd (fun _ _ _ _ _ _ _ _ => rfl) fx_no) (fx_cnd (fun _ _ _ _ _ _ _ _ => rfl) fx_no)))) (fx_cnd (fx_cnd (fx_cnd (fun _ _ _ _ _ _ _ _ => rfl) fx_no) (fx_cnd (fun _ _ _ _ _ _ _ _ => rfl) fx_no)) (fx_cnd (fx_cnd (fun _ _ _ _ _ _ _ _ => rfl) fx_no) (fx_cnd (fx_cnd (fun _ _ _ _ _ _ _ _ => rfl) fx_no) (fx_cnd (fun _ _ _ _ _ _ _ _ => rfl) fx_no))))
theorem fk_194_12 (X : ez_X) (pc : Nat) : fx_ok X (ft_194_12 X pc) (ez_t194_12 pc) := by
  delta ft_194_12 ez_t194_12
  exact fx_cnd (fk_194_10 X pc) (fk_194_11 X pc)
theorem fk_194_13 (X : ez_X) (pc : Nat) : fx_ok X (ft_194_13 X pc) (ez_t194_13 pc) := by
  delta ft_194_13 ez_t194_13
  exact fx_cnd (fk_194_9 X pc) (fk_194_12 X pc)
theorem fk_194 (X : ez_X) (pc : Nat) : fx_ok X (ft_194 X pc) (ez_t194 pc) := by
  delta ft_194 ez_t194
  exact fx_cnd (fk_194_6 X pc) (fk_194_13 X pc)
theorem fk_195_0 (X : ez_X) (pc : Nat) : fx_ok X (ft_195_0 X pc) (ez_t195_0 pc) := by
  delta ft_195_0 ez_t195_0
  exact fx_cnd (fx_cnd (fx_cnd (fx_cnd (fun _ _ _ _ _ _ _ _ => rfl) fx_no) (fx_cnd (fx_cnd (fun _ _ _ _ _ _ _ _ => rfl) fx_no) (fx_cnd (fun _ _ _ _ _ _ _ _ => rfl) fx_no))) (fx_cnd (fx_cnd (fun _ _ _ _ _ _ _ _ => rfl) fx_no) (fx_cnd (fx_cnd (fun _ _ _ _ _ _ _ _ => rfl) fx_no) (fx_cnd (fun _ _ _ _ _ _ _ _ => rfl) fx_no)))) (fx_cnd (fx_cnd (fx_cnd (fun _ _ _ _ _ _ _ _ => rfl) fx_no) (fx_cnd (fx_cnd (fun _ _ _ _ _ _ _ _ => rfl) fx_no) (fx_cnd (fun _ _ _ _ _ _ _ _ => rfl) fx_no))) (fx_cnd (fx_cnd (fun _ _ _ _ _ _ _ _ => rfl) fx_no) (fx_cnd (fx_cnd (fun _ _ _ _ _ _ _ _ => rfl) fx_no) (fx_cnd (fun _ _ _ _ _ _ _ _ => rfl) fx_no))))
theorem fk_195_1 (X : ez_X) (pc : Nat) : fx_ok X (ft_195_1 X pc) (ez_t195_1 pc) := by
  delta ft_195_1 ez_t195_1
  exact fx_cnd (fx_cnd (fx_cnd (fun _ _ _ _ _ _ _ _ => rfl) fx_no) (fx_cnd (fx_cnd (fun _ _ _ _ _ _ _ _ => rfl) fx_no) (fx_cnd (fun _ _ _ _ _ _ _ _ => rfl) fx_no))) (fx_cnd (fx_cnd (fun _ _ _ _ _ _ _ _ => rfl) fx_no) (fx_cnd (fx_cnd (fun _ _ _ _ _ _ _ _ => rfl) fx_no) (fx_cnd (fun _ _ _ _ _ _ _ _ => rfl) fx_no)))
theorem fk_195_2 (X : ez_X) (pc : Nat) : fx_ok X (ft_195_2 X pc) (ez_t195_2 pc) := by
  delta ft_195_2 ez_t195_2
  exact fx_cnd (fx_cnd (fx_cnd (fun _ _ _ _ _ _ _ _ => rfl) fx_no) (fx_cnd (fx_cnd (fun _ _ _ _ _ _ _ _ => rfl) fx_no) (fx_cnd (fun _ _ _ _ _ _ _ _ => rfl) fx_no))) (fx_cnd (fx_cnd (fx_cnd (fun _ _ _ _ _ _ _ _ => rfl) fx_no) (fx_cnd (fun _ _ _ _ _ _ _ _ => rfl) fx_no)) (fx_cnd (fx_cnd (fun _ _ _ _ _ _ _ _ => rfl) fx_no) (fx_cnd (fun _ _ _ _ _ _ _ _ => rfl) fx_no)))
theorem fk_195_3 (X : ez_X) (pc : Nat) : fx_ok X (ft_195_3 X pc) (ez_t195_3 pc) := by
  delta ft_195_3 ez_t195_3
  exact fx_cnd (fk_195_1 X pc) (fk_195_2 X pc)
theorem fk_195_4 (X : ez_X) (pc : Nat) : fx_ok X (ft_195_4 X pc) (ez_t195_4 pc) := by
  delta ft_195_4 ez_t195_4
  exact fx_cnd (fk_195_0 X pc) (fk_195_3 X pc)
theorem fk_195_5 (X : ez_X) (pc : Nat) : fx_ok X (ft_195_5 X pc) (ez_t195_5 pc) := by
  delta ft_195_5 ez_t195_5
  exact fx_cnd (fx_cnd (fx_cnd (fx_cnd (fun _ _ _ _ _ _ _ _ => rfl) fx_no) (fx_cnd (fx_cnd (fun _ _ _ _ _ _ _ _ => rfl) fx_no) (fx_cnd (fun _ _ _ _ _ _ _ _ => rfl) fx_no))) (fx_cnd (fx_cnd (fun _ _ _ _ _ _ _ _ => rfl) fx_no) (fx_cnd (fx_cnd (fun _ _ _ _ _ _ _ _ => rfl) fx_no) (fx_cnd (fun _ _ _ _ _ _ _ _ => rfl) fx_no)))) (fx_cnd (fx_cnd (fx_cnd (fun _ _ _ _ _ _ _ _ => rfl) fx_no) (fx_cnd (fx_cnd (fun _ _ _ _ _ _ _ _ => rfl) fx_no) (fx_cnd (fun _ _ _ _ _ _ _ _ => rfl) fx_no))) (fx_cnd (fx_cnd (fun _ _ _ _ _ _ _ _ => rfl) fx_no) (fx_cnd (fx_cnd (fun _ _ _ _ _ _ _ _ => rfl) fx_no) (fx_cnd (fun _ _ _ _ _ _ _ _ => rfl) fx_no))))
theorem fk_195_6 (X : ez_X) (pc : Nat) : fx_ok X (ft_195_6 X pc) (ez_t195_6 pc) := by
  delta ft_195_6 ez_t195_6
  exact fx_cnd (fx_cnd (fx_cnd (fun _ _ _ _ _ _ _ _ => rfl) fx_no) (fx_cnd (fx_cnd (fun _ _ _ _ _ _ _ _ => rfl) fx_no) (fx_cnd (fun _ _ _ _ _ _ _ _ => rfl) fx_no))) (fx_cnd (fx_cnd (fun _ _ _ _ _ _ _ _ => rfl) fx_no) (fx_cnd (fx_cnd (fun _ _ _ _ _ _ _ _ => rfl) fx_no) (fx_cnd (fun _ _ _ _ _ _ _ _ => rfl) fx_no)))
theorem fk_195_7 (X : ez_X) (pc : Nat) : fx_ok X (ft_195_7 X pc) (ez_t195_7 pc) := by
  delta ft_195_7 ez_t195_7
  exact fx_cnd (fx_cnd (fx_cnd (fun _ _ _ _ _ _ _ _ => rfl) fx_no) (fx_cnd (fx_cnd (fun _ _ _ _ _ _ _ _ => rfl) fx_no) (fx_cnd (fun _ _ _ _ _ _ _ _ => rfl) fx_no))) (fx_cnd (fx_cnd (fx_cnd (fun _ _ _ _ _ _ _ _ => rfl) fx_no) (fx_cnd (fun _ _ _ _ _ _ _ _ => rfl) fx_no)) (fx_cnd (fx_cnd (fun _ _ _ _ _ _ _ _ => rfl) fx_no) (fx_cnd (fun _ _ _ _ _ _ _ _ => rfl) fx_no)))
theorem fk_195_8 (X : ez_X) (pc : Nat) : fx_ok X (ft_195_8 X pc) (ez_t195_8 pc) := by
  delta ft_195_8 ez_t195_8
  exact fx_cnd (fk_195_6 X pc) (fk_195_7 X pc)
theorem fk_195_9 (X : ez_X) (pc : Nat) : fx_ok X (ft_195_9 X pc) (ez_t195_9 pc) := by
  delta ft_195_9 ez_t195_9
  exact fx_cnd (fk_195_5 X pc) (fk_195_8 X pc)
theorem fk_195 (X : ez_X) (pc : Nat) : fx_ok X (ft_195 X pc) (ez_t195 pc) := by
  delta ft_195 ez_t195
  exact fx_cnd (fk_195_4 X pc) (fk_195_9 X pc)
theorem fk_196_0 (X : ez_X) (pc : Nat) : fx_ok X (ft_196_0 X pc) (ez_t196_0 pc) := by
  delta ft_196_0 ez_t196_0
  exact fx_cnd (fx_cnd (fx_cnd (fx_cnd (fun _ _ _ _ _ _ _ _ => rfl) fx_no) (fx_cnd (fun _ _ _ _ _ _ _ _ => rfl) fx_no)) (fx_cnd (fx_cnd (fun _ _ _ _ _ _ _ _ => rfl) fx_no) (fx_cnd (fun _ _ _ _ _ _ _ _ => rfl) fx_no))) (fx_cnd (fx_cnd (fx_cnd (fun _ _ _ _ _ _ _ _ => rfl) fx_no) (fx_cnd (fun _ _ _ _ _ _ _ _ => rfl) fx_no)) (fx_cnd (fx_cnd (fun _ _ _ _ _ _ _ _ => rfl) fx_no) (fx_cnd (fun _ _ _ _ _ _ _ _ => rfl) fx_no)))
theorem fk_196_1 (X : ez_X) (pc : Nat) : fx_ok X (ft_196_1 X pc) (ez_t196_1 pc) := by
  delta ft_196_1 ez_t196_1
  exact fx_cnd (fx_cnd (fx_cnd (fx_cnd (fun _ _ _ _ _ _ _ _ => rfl) fx_no) (fx_cnd (fun _ _ _ _ _ _ _ _ => rfl) fx_no)) (fx_cnd (fx_cnd (fun _ _ _ _ _ _ _ _ => rfl) fx_no) (fx_cnd (fun _ _ _ _ _ _ _ _ => rfl) fx_no))) (fx_cnd (fx_cnd (fx_cnd (fun _ _ _ _ _ _ _ _ => rfl) fx_no) (fx_cnd (fun _ _ _ _ _ _ _ _ => rfl) fx_no)) (fx_cnd (fx_cnd (fun _ _ _ _ _ _ _ _ => rfl) fx_no) (fx_cnd (fx_cnd (fun _ _ _ _ _ _ _ _ => rfl) fx_no) (fx_cnd (fun _ _ _ _ _ _ _ _ => rfl) fx_no))))
theorem fk_196_2 (X : ez_X) (pc : Nat) : fx_ok X (ft_196_2 X pc) (ez_t196_2 pc) := by
  delta ft_196_2 ez_t196_2
  exact fx_cnd (fk_196_0 X pc) (fk_196_1 X pc)
theorem fk_196_3 (X : ez_X) (pc : Nat) : fx_ok X (ft_196_3 X pc) (ez_t196_3 pc) := by
  delta ft_196_3 ez_t196_3
  exact fx_cnd (fx_cnd (fx_cnd (fx_cnd (fun _ _ _ _ _ _ _ _ => rfl) fx_no) (fx_cnd (fun _ _ _ _ _ _ _ _ => rfl) fx_no)) (fx_cnd (fx_cnd (fun _ _ _ _ _ _ _ _ => rfl) fx_no) (fx_cnd (fun _ _ _ _ _ _ _ _ => rfl) fx_no))) (fx_cnd (fx_cnd (fx_cnd (fun _ _ _ _ _ _ _ _ => rfl) fx_no) (fx_cnd (fun _ _ _ _ _ _ _ _ => rfl) fx_no)) (fx_cnd (fx_cnd (fun _ _ _ _ _ _ _ _ => rfl) fx_no) (fx_cnd (fun _ _ _ _ _ _ _ _ => rfl) fx_no)))
theorem fk_196_4 (X : ez_X) (pc : Nat) : fx_ok X (ft_196_4 X pc) (ez_t196_4 pc) := by
  delta ft_196_4 ez_t196_4
  exact fx_cnd (fx_cnd (fx_cnd (fx_cnd (fun _ _ _ _ _ _ _ _ => rfl) fx_no) (fx_cnd (fun _ _ _ _ _ _ _ _ => rfl) fx_no)) (fx_cnd (fx_cnd (fun _ _ _ _ _ _ _ _ => rfl) fx_no) (fx_cnd (fun _ _ _ _ _ _ _ _ => rfl) fx_no))) (fx_cnd (fx_cnd (fx_cnd (fun _ _ _ _ _ _ _ _ => rfl) fx_no) (fx_cnd (fun _ _ _ _ _ _ _ _ => rfl) fx_no)) (fx_cnd (fx_cnd (fun _ _ _ _ _ _ _ _ => rfl) fx_no) (fx_cnd (fx_cnd (fun _ _ _ _ _ _ _ _ => rfl) fx_no) (fx_cnd (fun _ _ _ _ _ _ _ _ => rfl) fx_no))))
theorem fk_196_5 (X : ez_X) (pc : Nat) : fx_ok X (ft_196_5 X pc) (ez_t196_5 pc) := by
  delta ft_196_5 ez_t196_5
  exact fx_cnd (fk_196_3 X pc) (fk_196_4 X pc)
theorem fk_196_6 (X : ez_X) (pc : Nat) : fx_ok X (ft_196_6 X pc) (ez_t196_6 pc) := by
  delta ft_196_6 ez_t196_6
  exact fx_cnd (fk_196_2 X pc) (fk_196_5 X pc)
theorem fk_196_7 (X : ez_X) (pc : Nat) : fx_ok X (ft_196_7 X pc) (ez_t196_7 pc) := by
  delta ft_196_7 ez_t196_7
  exact fx_cnd (fx_cnd (fx_cnd (fx_cnd (fun _ _ _ _ _ _ _ _ => rfl) fx_no) (fx_cnd (fun _ _ _ _ _ _ _ _ => rfl) fx_no)) (fx_cnd (fx_cnd (fun _ _ _ _ _ _ _ _ => rfl) fx_no) (fx_cnd (fun _ _ _ _ _ _ _ _ => rfl) fx_no))) (fx_cnd (fx_cnd (fx_cnd (fun _ _ _ _ _ _ _ _ => rfl) fx_no) (fx_cnd (fun _ _ _ _ _ _ _ _ => rfl) fx_no)) (fx_cnd (fx_cnd (fun _ _ _ _ _ _ _ _ => rfl) fx_no) (fx_cnd (fun _ _ _ _ _ _ _ _ => rfl) fx_no)))
theorem fk_196_8 (X : ez_X) (pc : Nat) : fx_ok X (ft_196_8 X pc) (ez_t196_8 pc) := by
  delta ft_196_8 ez_t196_8
  exact fx_cnd (fx_cnd (fx_cnd (fx_cnd (fun _ _ _ _ _ _ _ _ => rfl) fx_no) (fx_cnd (fun _ _ _ _ _ _ _ _ => rfl) fx_no)) (fx_cnd (fx_cnd (fun _ _ _ _ _ _ _ _ => rfl) fx_no) (fx_cnd (fun _ _ _ _ _ _ _ _ => rfl) fx_no))) (fx_cnd (fx_cnd (fx_cnd (fun _ _ _ _ _ _ _ _ => rfl) fx_no) (fx_cnd (fun _ _ _ _ _ _ _ _ => rfl) fx_no)) (fx_cnd (fx_cnd (fun _ _ _ _ _ _ _ _ => rfl) fx_no) (fx_cnd (fx_cnd (fun _ _ _ _ _ _ _ _ => rfl) fx_no) (fx_cnd (fun _ _ _ _ _ _ _ _ => rfl) fx_no))))
theorem fk_196_9 (X : ez_X) (pc : Nat) : fx_ok X (ft_196_9 X pc) (ez_t196_9 pc) := by
  delta ft_196_9 ez_t196_9
  exact fx_cnd (fk_196_7 X pc) (fk_196_8 X pc)
theorem fk_196_10 (X : ez_X) (pc : Nat) : fx_ok X (ft_196_10 X pc) (ez_t196_10 pc) := by
  delta ft_196_10 ez_t196_10
  exact fx_cnd (fx_cnd (fx_cnd (fx_cnd (fun _ _ _ _ _ _ _ _ => rfl) fx_no) (fx_cnd (fun _ _ _ _ _ _ _ _ => rfl) fx_no)) (fx_cnd (fx_cnd (fun _ _ _ _ _ _ _ _ => rfl) fx_no) (fx_cnd (fun _ _ _ _ _ _ _ _ => rfl) fx_no))) (fx_cnd (fx_cnd (fx_cnd (fun _ _ _ _ _ _ _ _ => rfl) fx_no) (fx_cnd (fun _ _ _ _ _ _ _ _ => rfl) fx_no)) (fx_cnd (fx_cnd (fun _ _ _ _ _ _ _ _ => rfl) fx_no) (fx_cnd (fun _ _ _ _ _ _ _ _ => rfl) fx_no)))
theorem fk_196_11 (X : ez_X) (pc : Nat) : fx_ok X (ft_196_11 X pc) (ez_t196_11 pc) := by
  delta ft_196_11 ez_t196_11
  exact fx_cnd (fx_cnd (fx_cnd (fx_cnd (fun _ _ _ _ _ _ _ _ => rfl) fx_no) (fx_cnd (fun _ _ _ _ _ _ _ _ => rfl) fx_no)) (fx_cnd (fx_cnd (fun _ _ _ _ _ _ _ _ => rfl) fx_no) (fx_cnd (fun _ _ _ _ _ _ _ _ => rfl) fx_no))) (fx_cnd (fx_cnd (fx_cnd (fun _ _ _ _ _ _ _ _ => rfl) fx_no) (fx_cnd (fun _ _ _ _ _ _ _ _ => rfl) fx_no)) (fx_cnd (fx_cnd (fun _ _ _ _ _ _ _ _ => rfl) fx_no) (fx_cnd (fx_cnd (fun _ _ _ _ _ _ _ _ => rfl) fx_no) (fx_cnd (fun _ _ _ _ _ _ _ _ => rfl) fx_no))))
theorem fk_196_12 (X : ez_X) (pc : Nat) : fx_ok X (ft_196_12 X pc) (ez_t196_12 pc) := by
  delta ft_196_12 ez_t196_12
  exact fx_cnd (fk_196_10 X pc) (fk_196_11 X pc)
theorem fk_196_13 (X : ez_X) (pc : Nat) : fx_ok X (ft_196_13 X pc) (ez_t196_13 pc) := by
  delta ft_196_13 ez_t196_13
  exact fx_cnd (fk_196_9 X pc) (fk_196_12 X pc)
theorem fk_196 (X : ez_X) (pc : Nat) : fx_ok X (ft_196 X pc) (ez_t196 pc) := by
  delta ft_196 ez_t196
  exact fx_cnd (fk_196_6 X pc) (fk_196_13 X pc)
theorem fk_197 (X : ez_X) (pc : Nat) : fx_ok X (ft_197 X pc) (ez_t197 pc) := by
  delta ft_197 ez_t197
  exact fx_cnd (fx_cnd (fx_cnd (fx_cnd (fun _ _ _ _ _ _ _ _ => rfl) fx_no) (fx_cnd (fx_cnd (fun _ _ _ _ _ _ _ _ => rfl) fx_no) (fx_cnd (fun _ _ _ _ _ _ _ _ => rfl) fx_no))) (fx_cnd (fx_cnd (fun _ _ _ _ _ _ _ _ => rfl) fx_no) (fx_cnd (fx_cnd (fun _ _ _ _ _ _ _ _ => rfl) fx_no) (fx_cnd (fun _ _ _ _ _ _ _ _ => rfl) fx_no)))) (fx_cnd (fx_cnd (fx_cnd (fun _ _ _ _ _ _ _ _ => rfl) fx_no) (fx_cnd (fx_cnd (fun _ _ _ _ _ _ _ _ => rfl) fx_no) (fx_cnd (fun _ _ _ _ _ _ _ _ => rfl) fx_no))) (fx_cnd (fx_cnd (fun _ _ _ _ _ _ _ _ => rfl) fx_no) (fx_cnd (fx_cnd (fun _ _ _ _ _ _ _ _ => rfl) fx_no) (fx_cnd (fun _ _ _ _ _ _ _ _ => rfl) fx_no))))
theorem fk_198 (X : ez_X) (pc : Nat) : fx_ok X (ft_198 X pc) (ez_t198 pc) := by
  delta ft_198 ez_t198
  exact fx_cnd (fx_cnd (fx_cnd (fx_cnd (fun _ _ _ _ _ _ _ _ => rfl) fx_no) (fx_cnd (fx_cnd (fun _ _ _ _ _ _ _ _ => rfl) fx_no) (fx_cnd (fun _ _ _ _ _ _ _ _ => rfl) fx_no))) (fx_cnd (fx_cnd (fun _ _ _ _ _ _ _ _ => rfl) fx_no) (fx_cnd (fx_cnd (fun _ _ _ _ _ _ _ _ => rfl) fx_no) (fx_cnd (fun _ _ _ _ _ _ _ _ => rfl) fx_no)))) (fx_cnd (fx_cnd (fx_cnd (fun _ _ _ _ _ _ _ _ => rfl) fx_no) (fx_cnd (fx_cnd (fun _ _ _ _ _ _ _ _ => rfl) fx_no) (fx_cnd (fun _ _ _ _ _ _ _ _ => rfl) fx_no))) (fx_cnd (fx_cnd (fun _ _ _ _ _ _ _ _ => rfl) fx_no) (fx_cnd (fx_cnd (fun _ _ _ _ _ _ _ _ => rfl) fx_no) (fx_cnd (fun _ _ _ _ _ _ _ _ => rfl) fx_no))))
theorem fk_199 (X : ez_X) (pc : Nat) : fx_ok X (ft_199 X pc) (ez_t199 pc) := by
  delta ft_199 ez_t199
  exact fx_cnd (fx_cnd (fx_cnd (fx_cnd (fun _ _ _ _ _ _ _ _ => rfl) fx_no) (fx_cnd (fun _ _ _ _ _ _ _ _ => rfl) fx_no)) (fx_cnd (fx_cnd (fun _ _ _ _ _ _ _ _ => rfl) fx_no) (fx_cnd (fx_cnd (fun _ _ _ _ _ _ _ _ => rfl) fx_no) (fx_cnd (fun _ _ _ _ _ _ _ _ => rfl) fx_no)))) (fx_cnd (fx_cnd (fx_cnd (fun _ _ _ _ _ _ _ _ => rfl) fx_no) (fx_cnd (fun _ _ _ _ _ _ _ _ => rfl) fx_no)) (fx_cnd (fx_cnd (fun _ _ _ _ _ _ _ _ => rfl) fx_no) (fx_cnd (fx_cnd (fun _ _ _ _ _ _ _ _ => rfl) fx_no) (fx_cnd (fun _ _ _ _ _ _ _ _ => rfl) fx_no))))
theorem fk_200 (X : ez_X) (pc : Nat) : fx_ok X (ft_200 X pc) (ez_t200 pc) := by
  delta ft_200 ez_t200
  exact fx_cnd (fx_cnd (fx_cnd (fx_cnd (fun _ _ _ _ _ _ _ _ => rfl) fx_no) (fx_cnd (fun _ _ _ _ _ _ _ _ => rfl) fx_no)) (fx_cnd (fx_cnd (fun _ _ _ _ _ _ _ _ => rfl) fx_no) (fx_cnd (fx_cnd (fun _ _ _ _ _ _ _ _ => rfl) fx_no) (fx_cnd (fun _ _ _ _ _ _ _ _ => rfl) fx_no)))) (fx_cnd (fx_cnd (fx_cnd (fun _ _ _ _ _ _ _ _ => rfl) fx_no) (fx_cnd (fun _ _ _ _ _ _ _ _ => rfl) fx_no)) (fx_cnd (fx_cnd (fun _ _ _ _ _ _ _ _ => rfl) fx_no) (fx_cnd (fx_cnd (fun _ _ _ _ _ _ _ _ => rfl) fx_no) (fx_cnd (fun _ _ _ _ _ _ _ _ => rfl) fx_no))))
theorem fk_201 (X : ez_X) (pc : Nat) : fx_ok X (ft_201 X pc) (ez_t201 pc) := by
  delta ft_201 ez_t201
  exact fx_cnd (fx_cnd (fx_cnd (fx_cnd (fun _ _ _ _ _ _ _ _ => rfl) fx_no) (fx_cnd (fun _ _ _ _ _ _ _ _ => rfl) fx_no)) (fx_cnd (fx_cnd (fun _ _ _ _ _ _ _ _ => rfl) fx_no) (fx_cnd (fx_cnd (fun _ _ _ _ _ _ _ _ => rfl) fx_no) (fx_cnd (fun _ _ _ _ _ _ _ _ => rfl) fx_no)))) (fx_cnd (fx_cnd (fx_cnd (fun _ _ _ _ _ _ _ _ => rfl) fx_no) (fx_cnd (fx_cnd (fun _ _ _ _ _ _ _ _ => rfl) fx_no) (fx_cnd (fun _ _ _ _ _ _ _ _ => rfl) fx_no))) (fx_cnd (fx_cnd (fun _ _ _ _ _ _ _ _ => rfl) fx_no) (fx_cnd (fx_cnd (fun _ _ _ _ _ _ _ _ => rfl) fx_no) (fx_cnd (fun _ _ _ _ _ _ _ _ => rfl) fx_no))))
theorem fk_202 (X : ez_X) (pc : Nat) : fx_ok X (ft_202 X pc) (ez_t202 pc) := by
  delta ft_202 ez_t202
  exact fx_cnd (fx_cnd (fx_cnd (fx_cnd (fun _ _ _ _ _ _ _ _ => rfl) fx_no) (fx_cnd (fun _ _ _ _ _ _ _ _ => rfl) fx_no)) (fx_cnd (fx_cnd (fun _ _ _ _ _ _ _ _ => rfl) fx_no) (fx_cnd (fx_cnd (fun _ _ _ _ _ _ _ _ => rfl) fx_no) (fx_cnd (fun _ _ _ _ _ _ _ _ => rfl) fx_no)))) (fx_cnd (fx_cnd (fx_cnd (fun _ _ _ _ _ _ _ _ => rfl) fx_no) (fx_cnd (fun _ _ _ _ _ _ _ _ => rfl) fx_no)) (fx_cnd (fx_cnd (fun _ _ _ _ _ _ _ _ => rfl) fx_no) (fx_cnd (fx_cnd (fun _ _ _ _ _ _ _ _ => rfl) fx_no) (fx_cnd (fun _ _ _ _ _ _ _ _ => rfl) fx_no))))
theorem fk_203_0 (X : ez_X) (pc : Nat) : fx_ok X (ft_203_0 X pc) (ez_t203_0 pc) := by
  delta ft_203_0 ez_t203_0
  exact fx_cnd (fx_cnd (fx_cnd (fun _ _ _ _ _ _ _ _ => rfl) fx_no) (fx_cnd (fx_cnd (fun _ _ _ _ _ _ _ _ => rfl) fx_no) (fx_cnd (fun _ _ _ _ _ _ _ _ => rfl) fx_no))) (fx_cnd (fx_cnd (fun _ _ _ _ _ _ _ _ => rfl) fx_no) (fx_cnd (fx_cnd (fun _ _ _ _ _ _ _ _ => rfl) fx_no) (fx_cnd (fun _ _ _ _ _ _ _ _ => rfl) fx_no)))
theorem fk_203_1 (X : ez_X) (pc : Nat) : fx_ok X (ft_203_1 X pc) (ez_t203_1 pc) := by
  delta ft_203_1 ez_t203_1
  exact fx_cnd (fx_cnd (fx_cnd (fun _ _ _ _ _ _ _ _ => rfl) fx_no) (fx_cnd (fx_cnd (fun _ _ _ _ _ _ _ _ => rfl) fx_no) (fx_cnd (fun _ _ _ _ _ _ _ _ => rfl) fx_no))) (fx_cnd (fx_cnd (fx_cnd (fun _ _ _ _ _ _ _ _ => rfl) fx_no) (fx_cnd (fun _ _ _ _ _ _ _ _ => rfl) fx_no)) (fx_cnd (fx_cnd (fun _ _ _ _ _ _ _ _ => rfl) fx_no) (fx_cnd (fun _ _ _ _ _ _ _ _ => rfl) fx_no)))
theorem fk_203 (X : ez_X) (pc : Nat) : fx_ok X (ft_203 X pc) (ez_t203 pc) := by
  delta ft_203 ez_t203
  exact fx_cnd (fk_203_0 X pc) (fk_203_1 X pc)
theorem fk_204 (X : ez_X) (pc : Nat) : fx_ok X (ft_204 X pc) (ez_t204 pc) := by
  delta ft_204 ez_t204
  exact fx_cnd (fx_cnd (fx_cnd (fx_cnd (fun _ _ _ _ _ _ _ _ => rfl) fx_no) (fx_cnd (fun _ _ _ _ _ _ _ _ => rfl) fx_no)) (fx_cnd (fx_cnd (fun _ _ _ _ _ _ _ _ => rfl) fx_no) (fx_cnd (fx_cnd (fun _ _ _ _ _ _ _ _ => rfl) fx_no) (fx_cnd (fun _ _ _ _ _ _ _ _ => rfl) fx_no)))) (fx_cnd (fx_cnd (fx_cnd (fun _ _ _ _ _ _ _ _ => rfl) fx_no) (fx_cnd (fun _ _ _ _ _ _ _ _ => rfl) fx_no)) (fx_cnd (fx_cnd (fun _ _ _ _ _ _ _ _ => rfl) fx_no) (fx_cnd (fx_cnd (fun _ _ _ _ _ _ _ _ => rfl) fx_no) (fx_cnd (fun _ _ _ _ _ _ _ _ => rfl) fx_no))))
theorem fk_205_0 (X : ez_X) (pc : Nat) : fx_ok X (ft_205_0 X pc) (ez_t205_0 pc) := by
  delta ft_205_0 ez_t205_0
  exact fx_cnd (fx_cnd (fx_cnd (fun _ _ _ _ _ _ _ _ => rfl) fx_no) (fx_cnd (fx_cnd (fun _ _ _ _ _ _ _ _ => rfl) fx_no) (fx_cnd (fun _ _ _ _ _ _ _ _ => rfl) fx_no))) (fx_cnd (fx_cnd (fun _ _ _ _ _ _ _ _ => rfl) fx_no) (fx_cnd (fx_cnd (fun _ _ _ _ _ _ _ _ => rfl) fx_no) (fx_cnd (fun _ _ _ _ _ _ _ _ => rfl) fx_no)))
theorem fk_205_1 (X : ez_X) (pc : Nat) : fx_ok X (ft_205_1 X pc) (ez_t205_1 pc) := by
  delta ft_205_1 ez_t205_1
  exact fx_cnd (fx_cnd (fx_cnd (fun _ _ _ _ _ _ _ _ => rfl) fx_no) (fx_cnd (fx_cnd (fun _ _ _ _ _ _ _ _ => rfl) fx_no) (fx_cnd (fun _ _ _ _ _ _ _ _ => rfl) fx_no))) (fx_cnd (fx_cnd (fx_cnd (fun _ _ _ _ _ _ _ _ => rfl) fx_no) (fx_cnd (fun _ _ _ _ _ _ _ _ => rfl) fx_no)) (fx_cnd (fx_cnd (fun _ _ _ _ _ _ _ _ => rfl) fx_no) (fx_cnd (fun _ _ _ _ _ _ _ _ => rfl) fx_no)))
theorem fk_205_2 (X : ez_X) (pc : Nat) : fx_ok X (ft_205_2 X pc) (ez_t205_2 pc) := by
  delta ft_205_2 ez_t205_2
  exact fx_cnd (fk_205_0 X pc) (fk_205_1 X pc)
theorem fk_205_3 (X : ez_X) (pc : Nat) : fx_ok X (ft_205_3 X pc) (ez_t205_3 pc) := by
  delta ft_205_3 ez_t205_3
  exact fx_cnd (fx_cnd (fx_cnd (fun _ _ _ _ _ _ _ _ => rfl) fx_no) (fx_cnd (fx_cnd (fun _ _ _ _ _ _ _ _ => rfl) fx_no) (fx_cnd (fun _ _ _ _ _ _ _ _ => rfl) fx_no))) (fx_cnd (fx_cnd (fun _ _ _ _ _ _ _ _ => rfl) fx_no) (fx_cnd (fx_cnd (fun _ _ _ _ _ _ _ _ => rfl) fx_no) (fx_cnd (fun _ _ _ _ _ _ _ _ => rfl) fx_no)))
theorem fk_205_4 (X : ez_X) (pc : Nat) : fx_ok X (ft_205_4 X pc) (ez_t205_4 pc) := by
  delta ft_205_4 ez_t205_4
  exact fx_cnd (fx_cnd (fx_cnd (fun _ _ _ _ _ _ _ _ => rfl) fx_no) (fx_cnd (fx_cnd (fun _ _ _ _ _ _ _ _ => rfl) fx_no) (fx_cnd (fun _ _ _ _ _ _ _ _ => rfl) fx_no))) (fx_cnd (fx_cnd (fx_cnd (fun _ _ _ _ _ _ _ _ => rfl) fx_no) (fx_cnd (fun _ _ _ _ _ _ _ _ => rfl) fx_no)) (fx_cnd (fx_cnd (fun _ _ _ _ _ _ _ _ => rfl) fx_no) (fx_cnd (fun _ _ _ _ _ _ _ _ => rfl) fx_no)))
theorem fk_205_5 (X : ez_X) (pc : Nat) : fx_ok X (ft_205_5 X pc) (ez_t205_5 pc) := by
  delta ft_205_5 ez_t205_5
  exact fx_cnd (fk_205_3 X pc) (fk_205_4 X pc)
theorem fk_205 (X : ez_X) (pc : Nat) : fx_ok X (ft_205 X pc) (ez_t205 pc) := by
  delta ft_205 ez_t205
  exact fx_cnd (fk_205_2 X pc) (fk_205_5 X pc)
theorem fk_206 (X : ez_X) (pc : Nat) : fx_ok X (ft_206 X pc) (ez_t206 pc) := by
  delta ft_206 ez_t206
  exact fx_cnd (fx_cnd (fx_cnd (fx_cnd (fun _ _ _ _ _ _ _ _ => rfl) fx_no) (fx_cnd (fun _ _ _ _ _ _ _ _ => rfl) fx_no)) (fx_cnd (fx_cnd (fun _ _ _ _ _ _ _ _ => rfl) fx_no) (fx_cnd (fun _ _ _ _ _ _ _ _ => rfl) fx_no))) (fx_cnd (fx_cnd (fx_cnd (fun _ _ _ _ _ _ _ _ => rfl) fx_no) (fx_cnd (fun _ _ _ _ _ _ _ _ => rfl) fx_no)) (fx_cnd (fx_cnd (fun _ _ _ _ _ _ _ _ => rfl) fx_no) (fx_cnd (fun _ _ _ _ _ _ _ _ => rfl) fx_no)))
theorem fk_207 (X : ez_X) (pc : Nat) : fx_ok X (ft_207 X pc) (ez_t207 pc) := by
  delta ft_207 ez_t207
  exact fx_cnd (fx_cnd (fx_cnd (fx_cnd (fun _ _ _ _ _ _ _ _ => rfl) fx_no) (fx_cnd (fun _ _ _ _ _ _ _ _ => rfl) fx_no)) (fx_cnd (fx_cnd (fun _ _ _ _ _ _ _ _ => rfl) fx_no) (fx_cnd (fun _ _ _ _ _ _ _ _ => rfl) fx_no))) (fx_cnd (fx_cnd (fx_cnd (fun _ _ _ _ _ _ _ _ => rfl) fx_no) (fx_cnd (fun _ _ _ _ _ _ _ _ => rfl) fx_no)) (fx_cnd (fx_cnd (fun _ _ _ _ _ _ _ _ => rfl) fx_no) (fx_cnd (fun _ _ _ _ _ _ _ _ => rfl) fx_no)))
theorem fk_208_0 (X : ez_X) (pc : Nat) : fx_ok X (ft_208_0 X pc) (ez_t208_0 pc) := by
  delta ft_208_0 ez_t208_0
  exact fx_cnd (fx_cnd (fx_cnd (fx_cnd (fun _ _ _ _ _ _ _ _ => rfl) fx_no) (fx_cnd (fun _ _ _ _ _ _ _ _ => rfl) fx_no)) (fx_cnd (fx_cnd (fun _ _ _ _ _ _ _ _ => rfl) fx_no) (fx_cnd (fun _ _ _ _ _ _ _ _ => rfl) fx_no))) (fx_cnd (fx_cnd (fx_cnd (fun _ _ _ _ _ _ _ _ => rfl) fx_no) (fx_cnd (fun _ _ _ _ _ _ _ _ => rfl) fx_no)) (fx_cnd (fx_cnd (fun _ _ _ _ _ _ _ _ => rfl) fx_no) (fx_cnd (fx_cnd (fun _ _ _ _ _ _ _ _ => rfl) fx_no) (fx_cnd (fun _ _ _ _ _ _ _ _ => rfl) fx_no))))
theorem fk_208_1 (X : ez_X) (pc : Nat) : fx_ok X (ft_208_1 X pc) (ez_t208_1 pc) := by
  delta ft_208_1 ez_t208_1
  exact fx_cnd (fx_cnd (fx_cnd (fx_cnd (fun _ _ _ _ _ _ _ _ => rfl) fx_no) (fx_cnd (fun _ _ _ _ _ _ _ _ => rfl) fx_no)) (fx_cnd (fx_cnd (fun _ _ _ _ _ _ _ _ => rfl) fx_no) (fx_cnd (fun _ _ _ _ _ _ _ _ => rfl) fx_no))) (fx_cnd (fx_cnd (fx_cnd (fun _ _ _ _ _ _ _ _ => rfl) fx_no) (fx_cnd (fun _ _ _ _ _ _ _ _ => rfl) fx_no)) (fx_cnd (fx_cnd (fun _ _ _ _ _ _ _ _ => rfl) fx_no) (fx_cnd (fx_cnd (fun _ _ _ _ _ _ _ _ => rfl) fx_no) (fx_cnd (fun _ _ _ _ _ _ _ _ => rfl) fx_no))))
theorem fk_208_2 (X : ez_X) (pc : Nat) : fx_ok X (ft_208_2 X pc) (ez_t208_2 pc) := by
  delta ft_208_2 ez_t208_2
  exact fx_cnd (fk_208_0 X pc) (fk_208_1 X pc)
theorem fk_208_3 (X : ez_X) (pc : Nat) : fx_ok X (ft_208_3 X pc) (ez_t208_3 pc) := by
  delta ft_208_3 ez_t208_3
  exact fx_cnd (fx_cnd (fx_cnd (fx_cnd (fun _ _ _ _ _ _ _ _ => rfl) fx_no) (fx_cnd (fun _ _ _ _ _ _ _ _ => rfl) fx_no)) (fx_cnd (fx_cnd (fun _ _ _ _ _ _ _ _ => rfl) fx_no) (fx_cnd (fun _ _ _ _ _ _ _ _ => rfl) fx_no))) (fx_cnd (fx_cnd (fx_cnd (fun _ _ _ _ _ _ _ _ => rfl) fx_no) (fx_cnd (fun _ _ _ _ _ _ _ _ => rfl) fx_no)) (fx_cnd (fx_cnd (fun _ _ _ _ _ _ _ _ => rfl) fx_no) (fx_cnd (fx_cnd (fun _ _ _ _ _ _ _ _ => rfl) fx_no) (fx_cnd (fun _ _ _ _ _ _ _ _ => rfl) fx_no))))
theorem fk_208_4 (X : ez_X) (pc : Nat) : fx_ok X (ft_208_4 X pc) (ez_t208_4 pc) := by
  delta ft_208_4 ez_t208_4
  exact fx_cnd (fx_cnd (fx_cnd (fx_cnd (fun _ _ _ _ _ _ _ _ => rfl) fx_no) (fx_cnd (fun _ _ _ _ _ _ _ _ => rfl) fx_no)) (fx_cnd (fx_cnd (fun _ _ _ _ _ _ _ _ => rfl) fx_no) (fx_cnd (fun _ _ _ _ _ _ _ _ => rfl) fx_no))) (fx_cnd (fx_cnd (fx_cnd (fun _ _ _ _ _ _ _ _ => rfl) fx_no) (fx_cnd (fun _ _ _ _ _ _ _ _ => rfl) fx_no)) (fx_cnd (fx_cnd (fun _ _ _ _ _ _ _ _ => rfl) fx_no) (fx_cnd (fx_cnd (fun _ _ _ _ _ _ _ _ => rfl) fx_no) (fx_cnd (fun _ _ _ _ _ _ _ _ => rfl) fx_no))))
theorem fk_208_5 (X : ez_X) (pc : Nat) : fx_ok X (ft_208_5 X pc) (ez_t208_5 pc) := by
  delta ft_208_5 ez_t208_5
  exact fx_cnd (fk_208_3 X pc) (fk_208_4 X pc)
theorem fk_208 (X : ez_X) (pc : Nat) : fx_ok X (ft_208 X pc) (ez_t208 pc) := by
  delta ft_208 ez_t208
  exact fx_cnd (fk_208_2 X pc) (fk_208_5 X pc)
theorem fk_209_0 (X : ez_X) (pc : Nat) : fx_ok X (ft_209_0 X pc) (ez_t209_0 pc) := by
  delta ft_209_0 ez_t209_0
  exact fx_cnd (fx_cnd (fx_cnd (fx_cnd (fun _ _ _ _ _ _ _ _ => rfl) fx_no) (fx_cnd (fun _ _ _ _ _ _ _ _ => rfl) fx_no)) (fx_cnd (fx_cnd (fun _ _ _ _ _ _ _ _ => rfl) fx_no) (fx_cnd (fx_cnd (fun _ _ _ _ _ _ _ _ => rfl) fx_no) (fx_cnd (fun _ _ _ _ _ _ _ _ => rfl) fx_no)))) (fx_cnd (fx_cnd (fx_cnd (fun _ _ _ _ _ _ _ _ => rfl) fx_no) (fx_cnd (fun _ _ _ _ _ _ _ _ => rfl) fx_no)) (fx_cnd (fx_cnd (fun _ _ _ _ _ _ _ _ => rfl) fx_no) (fx_cnd (fx_cnd (fun _ _ _ _ _ _ _ _ => rfl) fx_no) (fx_cnd (fun _ _ _ _ _ _ _ _ => rfl) fx_no))))
theorem fk_209_1 (X : ez_X) (pc : Nat) : fx_ok X (ft_209_1 X pc) (ez_t209_1 pc) := by
  delta ft_209_1 ez_t209_1
  exact fx_cnd (fx_cnd (fx_cnd (fx_cnd (fun _ _ _ _ _ _ _ _ => rfl) fx_no) (fx_cnd (fun _ _ _ _ _ _ _ _ => rfl) fx_no)) (fx_cnd (fx_cnd (fun _ _ _ _ _ _ _ _ => rfl) fx_no) (fx_cnd (fx_cnd (fun _ _ _ _ _ _ _ _ => rfl) fx_no) (fx_cnd (fun _ _ _ _ _ _ _ _ => rfl) fx_no)))) (fx_cnd (fx_cnd (fx_cnd (fun _ _ _ _ _ _ _ _ => rfl) fx_no) (fx_cnd (fx_cnd (fun _ _ _ _ _ _ _ _ => rfl) fx_no) (fx_cnd (fun _ _ _ _ _ _ _ _ => rfl) fx_no))) (fx_cnd (fx_cnd (fun _ _ _ _ _ _ _ _ => rfl) fx_no) (fx_cnd (fx_cnd (fun _ _ _ _ _ _ _ _ => rfl) fx_no) (fx_cnd (fun _ _ _ _ _ _ _ _ => rfl) fx_no))))
theorem fk_209 (X : ez_X) (pc : Nat) : fx_ok X (ft_209 X pc) (ez_t209 pc) := by
  delta ft_209 ez_t209
  exact fx_cnd (fk_209_0 X pc) (fk_209_1 X pc)
theorem fk_210_0 (X : ez_X) (pc : Nat) : fx_ok X (ft_210_0 X pc) (ez_t210_0 pc) := by
  delta ft_210_0 ez_t210_0
  exact fx_cnd (fx_cnd (fx_cnd (fun _ _ _ _ _ _ _ _ => rfl) fx_no) (fx_cnd (fx_cnd (fun _ _ _ _ _ _ _ _ => rfl) fx_no) (fx_cnd (fun _ _ _ _ _ _ _ _ => rfl) fx_no))) (fx_cnd (fx_cnd (fx_cnd (fun _ _ _ _ _ _ _ _ => rfl) fx_no) (fx_cnd (fun _ _ _ _ _ _ _ _ => rfl) fx_no)) (fx_cnd (fx_cnd (fun _ _ _ _ _ _ _ _ => rfl) fx_no) (fx_cnd (fun _ _ _ _ _ _ _ _ => rfl) fx_no)))
theorem fk_210_1 (X : ez_X) (pc : Nat) : fx_ok X (ft_210_1 X pc) (ez_t210_1 pc) := by
  delta ft_210_1 ez_t210_1
  exact fx_cnd (fx_cnd (fx_cnd (fx_cnd (fun _ _ _ _ _ _ _ _ => rfl) fx_no) (fx_cnd (fun _ _ _ _ _ _ _ _ => rfl) fx_no)) (fx_cnd (fx_cnd (fun _ _ _ _ _ _ _ _ => rfl) fx_no) (fx_cnd (fun _ _ _ _ _ _ _ _ => rfl) fx_no))) (fx_cnd (fx_cnd (fx_cnd (fun _ _ _ _ _ _ _ _ => rfl) fx_no) (fx_cnd (fun _ _ _ _ _ _ _ _ => rfl) fx_no)) (fx_cnd (fx_cnd (fun _ _ _ _ _ _ _ _ => rfl) fx_no) (fx_cnd (fun _ _ _ _ _ _ _ _ => rfl) fx_no)))
theorem fk_210_2 (X : ez_X) (pc : Nat) : fx_ok X (ft_210_2 X pc) (ez_t210_2 pc) := by
  delta ft_210_2 ez_t210_2
  exact fx_cnd (fk_210_0 X pc) (fk_210_1 X pc)
theorem fk_210_3 (X : ez_X) (pc : Nat) : fx_ok X (ft_210_3 X pc) (ez_t210_3 pc) := by
  delta ft_210_3 ez_t210_3
  exact fx_cnd (fx_cnd (fx_cnd (fx_cnd (fun _ _ _ _ _ _ _ _ => rfl) fx_no) (fx_cnd (fun _ _ _ _ _ _ _ _ => rfl) fx_no)) (fx_cnd (fx_cnd (fun _ _ _ _ _ _ _ _ => rfl) fx_no) (fx_cnd (fun _ _ _ _ _ _ _ _ => rfl) fx_no))) (fx_cnd (fx_cnd (fx_cnd (fun _ _ _ _ _ _ _ _ => rfl) fx_no) (fx_cnd (fun _ _ _ _ _ _ _ _ => rfl) fx_no)) (fx_cnd (fx_cnd (fun _ _ _ _ _ _ _ _ => rfl) fx_no) (fx_cnd (fun _ _ _ _ _ _ _ _ => rfl) fx_no)))
theorem fk_210_4 (X : ez_X) (pc : Nat) : fx_ok X (ft_210_4 X pc) (ez_t210_4 pc) := by
  delta ft_210_4 ez_t210_4
  exact fx_cnd (fx_cnd (fx_cnd (fx_cnd (fun _ _ _ _ _ _ _ _ => rfl) fx_no) (fx_cnd (fun _ _ _ _ _ _ _ _ => rfl) fx_no)) (fx_cnd (fx_cnd (fun _ _ _ _ _ _ _ _ => rfl) fx_no) (fx_cnd (fun _ _ _ _ _ _ _ _ => rfl) fx_no))) (fx_cnd (fx_cnd (fx_cnd (fun _ _ _ _ _ _ _ _ => rfl) fx_no) (fx_cnd (fun _ _ _ _ _ _ _ _ => rfl) fx_no)) (fx_cnd (fx_cnd (fun _ _ _ _ _ _ _ _ => rfl) fx_no) (fx_cnd (fun _ _ _ _ _ _ _ _ => rfl) fx_no)))
theorem fk_210_5 (X : ez_X) (pc : Nat) : fx_ok X (ft_210_5 X pc) (ez_t210_5 pc) := by
  delta ft_210_5 ez_t210_5
  exact fx_cnd (fk_210_3 X pc) (fk_210_4 X pc)
theorem fk_210_6 (X : ez_X) (pc : Nat) : fx_ok X (ft_210_6 X pc) (ez_t210_6 pc) := by
  delta ft_210_6 ez_t210_6
  exact fx_cnd (fk_210_2 X pc) (fk_210_5 X pc)
theorem fk_210_7 (X : ez_X) (pc : Nat) : fx_ok X (ft_210_7 X pc) (ez_t210_7 pc) := by
  delta ft_210_7 ez_t210_7
  exact fx_cnd (fx_cnd (fx_cnd (fun _ _ _ _ _ _ _ _ => rfl) fx_no) (fx_cnd (fx_cnd (fun _ _ _ _ _ _ _ _ => rfl) fx_no) (fx_cnd (fun _ _ _ _ _ _ _ _ => rfl) fx_no))) (fx_cnd (fx_cnd (fx_cnd (fun _ _ _ _ _ _ _ _ => rfl) fx_no) (fx_cnd (fun _ _ _ _ _ _ _ _ => rfl) fx_no)) (fx_cnd (fx_cnd (fun _ _ _ _ _ _ _ _ => rfl) fx_no) (fx_cnd (fun _ _ _ _ _ _ _ _ => rfl) fx_no)))
theorem fk_210_8 (X : ez_X) (pc : Nat) : fx_ok X (ft_210_8 X pc) (ez_t210_8 pc) := by
  delta ft_210_8 ez_t210_8
  exact fx_cnd (fx_cnd (fx_cnd (fx_cnd (fun _ _ _ _ _ _ _ _ => rfl) fx_no) (fx_cnd (fun _ _ _ _ _ _ _ _ => rfl) fx_no)) (fx_cnd (fx_cnd (fun _ _ _ _ _ _ _ _ => rfl) fx_no) (fx_cnd (fun _ _ _ _ _ _ _ _ => rfl) fx_no))) (fx_cnd (fx_cnd (fx_cnd (fun _ _ _ _ _ _ _ _ => rfl) fx_no) (fx_cnd (fun _ _ _ _ _ _ _ _ => rfl) fx_no)) (fx_cnd (fx_cnd (fun _ _ _ _ _ _ _ _ => rfl) fx_no) (fx_cnd (fun _ _ _ _ _ _ _ _ => rfl) fx_no)))
theorem fk_210_9 (X : ez_X) (pc : Nat) : fx_ok X (ft_210_9 X pc) (ez_t210_9 pc) := by
  delta ft_210_9 ez_t210_9
  exact fx_cnd (fk_210_7 X pc) (fk_210_8 X pc)
theorem fk_210_10 (X : ez_X) (pc : Nat) : fx_ok X (ft_210_10 X pc) (ez_t210_10 pc) := by
  delta ft_210_10 ez_t210_10
  exact fx_cnd (fx_cnd (fx_cnd (fx_cnd (fun _ _ _ _ _ _ _ _ => rfl) fx_no) (fx_cnd (fun _ _ _ _ _ _ _ _ => rfl) fx_no)) (fx_cnd (fx_cnd (fun _ _ _ _ _ _ _ _ => rfl) fx_no) (fx_cnd (fun _ _ _ _ _ _ _ _ => rfl) fx_no))) (fx_cnd (fx_cnd (fx_cnd (fun _ _ _ _ _ _ _ _ => rfl) fx_no) (fx_cnd (fun _ _ _ _ _ _ _ _ => rfl) fx_no)) (fx_cnd (fx_cnd (fun _ _ _ _ _ _ _ _ => rfl) fx_no) (fx_cnd (fun _ _ _ _ _ _ _ _ => rfl) fx_no)))
theorem fk_210_11 (X : ez_X) (pc : Nat) : fx_ok X (ft_210_11 X pc) (ez_t210_11 pc) := by
  delta ft_210_11 ez_t210_11
  exact fx_cnd (fx_cnd (fx_cnd (fx_cnd (fun _ _ _ _ _ _ _ _ => rfl) fx_no) (fx_cnd (fun _ _ _ _ _ _ _ _ => rfl) fx_no)) (fx_cnd (fx_cnd (fun _ _ _ _ _ _ _ _ => rfl) fx_no) (fx_cnd (fun _ _ _ _ _ _ _ _ => rfl) fx_no))) (fx_cnd (fx_cnd (fx_cnd (fun _ _ _ _ _ _ _ _ => rfl) fx_no) (fx_cnd (fun _ _ _ _ _ _ _ _ => rfl) fx_no)) (fx_cnd (fx_cnd (fun _ _ _ _ _ _ _ _ => rfl) fx_no) (fx_cnd (fun _ _ _ _ _ _ _ _ => rfl) fx_no)))
theorem fk_210_12 (X : ez_X) (pc : Nat) : fx_ok X (ft_210_12 X pc) (ez_t210_12 pc) := by
  delta ft_210_12 ez_t210_12
  exact fx_cnd (fk_210_10 X pc) (fk_210_11 X pc)
theorem fk_210_13 (X : ez_X) (pc : Nat) : fx_ok X (ft_210_13 X pc) (ez_t210_13 pc) := by
  delta ft_210_13 ez_t210_13
  exact fx_cnd (fk_210_9 X pc) (fk_210_12 X pc)
theorem fk_210 (X : ez_X) (pc : Nat) : fx_ok X (ft_210 X pc) (ez_t210 pc) := by
  delta ft_210 ez_t210
  exact fx_cnd (fk_210_6 X pc) (fk_210_13 X pc)
theorem fk_211_0 (X : ez_X) (pc : Nat) : fx_ok X (ft_211_0 X pc) (ez_t211_0 pc) := by
  delta ft_211_0 ez_t211_0
  exact fx_cnd (fx_cnd (fx_cnd (fx_cnd (fun _ _ _ _ _ _ _ _ => rfl) fx_no) (fx_cnd (fun _ _ _ _ _ _ _ _ => rfl) fx_no)) (fx_cnd (fx_cnd (fun _ _ _ _ _ _ _ _ => rfl) fx_no) (fx_cnd (fx_cnd (fun _ _ _ _ _ _ _ _ => rfl) fx_no) (fx_cnd (fun _ _ _ _ _ _ _ _ => rfl) fx_no)))) (fx_cnd (fx_cnd (fx_cnd (fun _ _ _ _ _ _ _ _ => rfl) fx_no) (fx_cnd (fx_cnd (fun _ _ _ _ _ _ _ _ => rfl) fx_no) (fx_cnd (fun _ _ _ _ _ _ _ _ => rfl) fx_no))) (fx_cnd (fx_cnd (fun _ _ _ _ _ _ _ _ => rfl) fx_no) (fx_cnd (fx_cnd (fun _ _ _ _ _ _ _ _ => rfl) fx_no) (fx_cnd (fun _ _ _ _ _ _ _ _ => rfl) fx_no))))
theorem fk_211_1 (X : ez_X) (pc : Nat) : fx_ok X (ft_211_1 X pc) (ez_t211_1 pc) := by
  delta ft_211_1 ez_t211_1
  exact fx_cnd (fx_cnd (fx_cnd (fx_cnd (fun _ _ _ _ _ _ _ _ => rfl) fx_no) (fx_cnd (fx_cnd (fun _ _ _ _ _ _ _ _ => rfl) fx_no) (fx_cnd (fun _ _ _ _ _ _ _ _ => rfl) fx_no))) (fx_cnd (fx_cnd (fun _ _ _ _ _ _ _ _ => rfl) fx_no) (fx_cnd (fx_cnd (fun _ _ _ _ _ _ _ _ => rfl) fx_no) (fx_cnd (fun _ _ _ _ _ _ _ _ => rfl) fx_no)))) (fx_cnd (fx_cnd (fx_cnd (fun _ _ _ _ _ _ _ _ => rfl) fx_no) (fx_cnd (fx_cnd (fun _ _ _ _ _ _ _ _ => rfl) fx_no) (fx_cnd (fun _ _ _ _ _ _ _ _ => rfl) fx_no))) (fx_cnd (fx_cnd (fun _ _ _ _ _ _ _ _ => rfl) fx_no) (fx_cnd (fx_cnd (fun _ _ _ _ _ _ _ _ => rfl) fx_no) (fx_cnd (fun _ _ _ _ _ _ _ _ => rfl) fx_no))))
theorem fk_211_2 (X : ez_X) (pc : Nat) : fx_ok X (ft_211_2 X pc) (ez_t211_2 pc) := by
  delta ft_211_2 ez_t211_2
  exact fx_cnd (fk_211_0 X pc) (fk_211_1 X pc)
theorem fk_211_3 (X : ez_X) (pc : Nat) : fx_ok X (ft_211_3 X pc) (ez_t211_3 pc) := by
  delta ft_211_3 ez_t211_3
  exact fx_cnd (fx_cnd (fx_cnd (fx_cnd (fun _ _ _ _ _ _ _ _ => rfl) fx_no) (fx_cnd (fun _ _ _ _ _ _ _ _ => rfl) fx_no)) (fx_cnd (fx_cnd (fun _ _ _ _ _ _ _ _ => rfl) fx_no) (fx_cnd (fx_cnd (fun _ _ _ _ _ _ _ _ => rfl) fx_no) (fx_cnd (fun _ _ _ _ _ _ _ _ => rfl) fx_no)))) (fx_cnd (fx_cnd (fx_cnd (fun _ _ _ _ _ _ _ _ => rfl) fx_no) (fx_cnd (fx_cnd (fun _ _ _ _ _ _ _ _ => rfl) fx_no) (fx_cnd (fun _ _ _ _ _ _ _ _ => rfl) fx_no))) (fx_cnd (fx_cnd (fun _ _ _ _ _ _ _ _ => rfl) fx_no) (fx_cnd (fx_cnd (fun _ _ _ _ _ _ _ _ => rfl) fx_no) (fx_cnd (fun _ _ _ _ _ _ _ _ => rfl) fx_no))))
theorem fk_211_4 (X : ez_X) (pc : Nat) : fx_ok X (ft_211_4 X pc) (ez_t211_4 pc) := by
  delta ft_211_4 ez_t211_4
  exact fx_cnd (fx_cnd (fx_cnd (fx_cnd (fun _ _ _ _ _ _ _ _ => rfl) fx_no) (fx_cnd (fx_cnd (fun _ _ _ _ _ _ _ _ => rfl) fx_no) (fx_cnd (fun _ _ _ _ _ _ _ _ => rfl) fx_no))) (fx_cnd (fx_cnd (fun _ _ _ _ _ _ _ _ => rfl) fx_no) (fx_cnd (fx_cnd (fun _ _ _ _ _ _ _ _ => rfl) fx_no) (fx_cnd (fun _ _ _ _ _ _ _ _ => rfl) fx_no)))) (fx_cnd (fx_cnd (fx_cnd (fun _ _ _ _ _ _ _ _ => rfl) fx_no) (fx_cnd (fx_cnd (fun _ _ _ _ _ _ _ _ => rfl) fx_no) (fx_cnd (fun _ _ _ _ _ _ _ _ => rfl) fx_no))) (fx_cnd (fx_cnd (fun _ _ _ _ _ _ _ _ => rfl) fx_no) (fx_cnd (fx_cnd (fun _ _ _ _ _ _ _ _ => rfl) fx_no) (fx_cnd (fun _ _ _ _ _ _ _ _ => rfl) fx_no))))
theorem fk_211_5 (X : ez_X) (pc : Nat) : fx_ok X (ft_211_5 X pc) (ez_t211_5 pc) := by
  delta ft_211_5 ez_t211_5
  exact fx_cnd (fk_211_3 X pc) (fk_211_4 X pc)
theorem fk_211_6 (X : ez_X) (pc : Nat) : fx_ok X (ft_211_6 X pc) (ez_t211_6 pc) := by
  delta ft_211_6 ez_t211_6
  exact fx_cnd (fk_211_2 X pc) (fk_211_5 X pc)
theorem fk_211_7 (X : ez_X) (pc : Nat) : fx_ok X (ft_211_7 X pc) (ez_t211_7 pc) := by
  delta ft_211_7 ez_t211_7
  exact fx_cnd (fx_cnd (fx_cnd (fx_cnd (fun _ _ _ _ _ _ _ _ => rfl) fx_no) (fx_cnd (fun _ _ _ _ _ _ _ _ => rfl) fx_no)) (fx_cnd (fx_cnd (fun _ _ _ _ _ _ _ _ => rfl) fx_no) (fx_cnd (fx_cnd (fun _ _ _ _ _ _ _ _ => rfl) fx_no) (fx_cnd (fun _ _ _ _ _ _ _ _ => rfl) fx_no)))) (fx_cnd (fx_cnd (fx_cnd (fun _ _ _ _ _ _ _ _ => rfl) fx_no) (fx_cnd (fx_cnd (fun _ _ _ _ _ _ _ _ => rfl) fx_no) (fx_cnd (fun _ _ _ _ _ _ _ _ => rfl) fx_no))) (fx_cnd (fx_cnd (fun _ _ _ _ _ _ _ _ => rfl) fx_no) (fx_cnd (fx_cnd (fun _ _ _ _ _ _ _ _ => rfl) fx_no) (fx_cnd (fun _ _ _ _ _ _ _ _ => rfl) fx_no))))
theorem fk_211_8 (X : ez_X) (pc : Nat) : fx_ok X (ft_211_8 X pc) (ez_t211_8 pc) := by
  delta ft_211_8 ez_t211_8
  exact fx_cnd (fx_cnd (fx_cnd (fx_cnd (fun _ _ _ _ _ _ _ _ => rfl) fx_no) (fx_cnd (fx_cnd (fun _ _ _ _ _ _ _ _ => rfl) fx_no) (fx_cnd (fun _ _ _ _ _ _ _ _ => rfl) fx_no))) (fx_cnd (fx_cnd (fun _ _ _ _ _ _ _ _ => rfl) fx_no) (fx_cnd (fx_cnd (fun _ _ _ _ _ _ _ _ => rfl) fx_no) (fx_cnd (fun _ _ _ _ _ _ _ _ => rfl) fx_no)))) (fx_cnd (fx_cnd (fx_cnd (fun _ _ _ _ _ _ _ _ => rfl) fx_no) (fx_cnd (fx_cnd (fun _ _ _ _ _ _ _ _ => rfl) fx_no) (fx_cnd (fun _ _ _ _ _ _ _ _ => rfl) fx_no))) (fx_cnd (fx_cnd (fun _ _ _ _ _ _ _ _ => rfl) fx_no) (fx_cnd (fx_cnd (fun _ _ _ _ _ _ _ _ => rfl) fx_no) (fx_cnd (fun _ _ _ _ _ _ _ _ => rfl) fx_no))))
theorem fk_211_9 (X : ez_X) (pc : Nat) : fx_ok X (ft_211_9 X pc) (ez_t211_9 pc) := by
  delta ft_211_9 ez_t211_9
  exact fx_cnd (fk_211_7 X pc) (fk_211_8 X pc)
theorem fk_211_10 (X : ez_X) (pc : Nat) : fx_ok X (ft_211_10 X pc) (ez_t211_10 pc) := by
  delta ft_211_10 ez_t211_10
  exact fx_cnd (fx_cnd (fx_cnd (fx_cnd (fun _ _ _ _ _ _ _ _ => rfl) fx_no) (fx_cnd (fx_cnd (fun _ _ _ _ _ _ _ _ => rfl) fx_no) (fx_cnd (fun _ _ _ _ _ _ _ _ => rfl) fx_no))) (fx_cnd (fx_cnd (fun _ _ _ _ _ _ _ _ => rfl) fx_no) (fx_cnd (fx_cnd (fun _ _ _ _ _ _ _ _ => rfl) fx_no) (fx_cnd (fun _ _ _ _ _ _ _ _ => rfl) fx_no)))) (fx_cnd (fx_cnd (fx_cnd (fun _ _ _ _ _ _ _ _ => rfl) fx_no) (fx_cnd (fx_cnd (fun _ _ _ _ _ _ _ _ => rfl) fx_no) (fx_cnd (fun _ _ _ _ _ _ _ _ => rfl) fx_no))) (fx_cnd (fx_cnd (fun _ _ _ _ _ _ _ _ => rfl) fx_no) (fx_cnd (fx_cnd (fun _ _ _ _ _ _ _ _ => rfl) fx_no) (fx_cnd (fun _ _ _ _ _ _ _ _ => rfl) fx_no))))
theorem fk_211_11 (X : ez_X) (pc : Nat) : fx_ok X (ft_211_11 X pc) (ez_t211_11 pc) := by
  delta ft_211_11 ez_t211_11
  exact fx_cnd (fx_cnd (fx_cnd (fx_cnd (fun _ _ _ _ _ _ _ _ => rfl) fx_no) (fx_cnd (fx_cnd (fun _ _ _ _ _ _ _ _ => rfl) fx_no) (fx_cnd (fun _ _ _ _ _ _ _ _ => rfl) fx_no))) (fx_cnd (fx_cnd (fun _ _ _ _ _ _ _ _ => rfl) fx_no) (fx_cnd (fx_cnd (fun _ _ _ _ _ _ _ _ => rfl) fx_no) (fx_cnd (fun _ _ _ _ _ _ _ _ => rfl) fx_no)))) (fx_cnd (fx_cnd (fx_cnd (fun _ _ _ _ _ _ _ _ => rfl) fx_no) (fx_cnd (fx_cnd (fun _ _ _ _ _ _ _ _ => rfl) fx_no) (fx_cnd (fun _ _ _ _ _ _ _ _ => rfl) fx_no))) (fx_cnd (fx_cnd (fun _ _ _ _ _ _ _ _ => rfl) fx_no) (fx_cnd (fx_cnd (fun _ _ _ _ _ _ _ _ => rfl) fx_no) (fx_cnd (fun _ _ _ _ _ _ _ _ => rfl) fx_no))))
theorem fk_211_12 (X : ez_X) (pc : Nat) : fx_ok X (ft_211_12 X pc) (ez_t211_12 pc) := by
  delta ft_211_12 ez_t211_12
  exact fx_cnd (fk_211_10 X pc) (fk_211_11 X pc)
theorem fk_211_13 (X : ez_X) (pc : Nat) : fx_ok X (ft_211_13 X pc) (ez_t211_13 pc) := by
  delta ft_211_13 ez_t211_13
  exact fx_cnd (fk_211_9 X pc) (fk_211_12 X pc)
theorem fk_211 (X : ez_X) (pc : Nat) : fx_ok X (ft_211 X pc) (ez_t211 pc) := by
  delta ft_211 ez_t211
  exact fx_cnd (fk_211_6 X pc) (fk_211_13 X pc)
theorem fk_212_0 (X : ez_X) (pc : Nat) : fx_ok X (ft_212_0 X pc) (ez_t212_0 pc) := by
  delta ft_212_0 ez_t212_0
  exact fx_cnd (fx_cnd (fx_cnd (fun _ _ _ _ _ _ _ _ => rfl) fx_no) (fx_cnd (fx_cnd (fun _ _ _ _ _ _ _ _ => rfl) fx_no) (fx_cnd (fun _ _ _ _ _ _ _ _ => rfl) fx_no))) (fx_cnd (fx_cnd (fx_cnd (fun _ _ _ _ _ _ _ _ => rfl) fx_no) (fx_cnd (fun _ _ _ _ _ _ _ _ => rfl) fx_no)) (fx_cnd (fx_cnd (fun _ _ _ _ _ _ _ _ => rfl) fx_no) (fx_cnd (fun _ _ _ _ _ _ _ _ => rfl) fx_no)))
theorem fk_212_1 (X : ez_X) (pc : Nat) : fx_ok X (ft_212_1 X pc) (ez_t212_1 pc) := by
  delta ft_212_1 ez_t212_1
  exact fx_cnd (fx_cnd (fx_cnd (fx_cnd (fun _ _ _ _ _ _ _ _ => rfl) fx_no) (fx_cnd (fun _ _ _ _ _ _ _ _ => rfl) fx_no)) (fx_cnd (fx_cnd (fun _ _ _ _ _ _ _ _ => rfl) fx_no) (fx_cnd (fun _ _ _ _ _ _ _ _ => rfl) fx_no))) (fx_cnd (fx_cnd (fx_cnd (fun _ _ _ _ _ _ _ _ => rfl) fx_no) (fx_cnd (fun _ _ _ _ _ _ _ _ => rfl) fx_no)) (fx_cnd (fx_cnd (fun _ _ _ _ _ _ _ _ => rfl) fx_no) (fx_cnd (fun _ _ _ _ _ _ _ _ => rfl) fx_no)))
theorem fk_212 (X : ez_X) (pc : Nat) : fx_ok X (ft_212 X pc) (ez_t212 pc) := by
  delta ft_212 ez_t212
  exact fx_cnd (fk_212_0 X pc) (fk_212_1 X pc)
theorem fk_213_0 (X : ez_X) (pc : Nat) : fx_ok X (ft_213_0 X pc) (ez_t213_0 pc) := by
  delta ft_213_0 ez_t213_0
  exact fx_cnd (fx_cnd (fx_cnd (fx_cnd (fun _ _ _ _ _ _ _ _ => rfl) fx_no) (fx_cnd (fx_cnd (fun _ _ _ _ _ _ _ _ => rfl) fx_no) (fx_cnd (fun _ _ _ _ _ _ _ _ => rfl) fx_no))) (fx_cnd (fx_cnd (fun _ _ _ _ _ _ _ _ => rfl) fx_no) (fx_cnd (fx_cnd (fun _ _ _ _ _ _ _ _ => rfl) fx_no) (fx_cnd (fun _ _ _ _ _ _ _ _ => rfl) fx_no)))) (fx_cnd (fx_cnd (fx_cnd (fun _ _ _ _ _ _ _ _ => rfl) fx_no) (fx_cnd (fx_cnd (fun _ _ _ _ _ _ _ _ => rfl) fx_no) (fx_cnd (fun _ _ _ _ _ _ _ _ => rfl) fx_no))) (fx_cnd (fx_cnd (fun _ _ _ _ _ _ _ _ => rfl) fx_no) (fx_cnd (fx_cnd (fun _ _ _ _ _ _ _ _ => rfl) fx_no) (fx_cnd (fun _ _ _ _ _ _ _ _ => rfl) fx_no))))
theorem fk_213_1 (X : ez_X) (pc : Nat) : fx_ok X (ft_213_1 X pc) (ez_t213_1 pc) := by
  delta ft_213_1 ez_t213_1
  exact fx_cnd (fx_cnd (fx_cnd (fun _ _ _ _ _ _ _ _ => rfl) fx_no) (fx_cnd (fx_cnd (fun _ _ _ _ _ _ _ _ => rfl) fx_no) (fx_cnd (fun _ _ _ _ _ _ _ _ => rfl) fx_no))) (fx_cnd (fx_cnd (fun _ _ _ _ _ _ _ _ => rfl) fx_no) (fx_cnd (fx_cnd (fun _ _ _ _ _ _ _ _ => rfl) fx_no) (fx_cnd (fun _ _ _ _ _ _ _ _ => rfl) fx_no)))
theorem fk_213_2 (X : ez_X) (pc : Nat) : fx_ok X (ft_213_2 X pc) (ez_t213_2 pc) := by
  delta ft_213_2 ez_t213_2
  exact fx_cnd (fx_cnd (fx_cnd (fun _ _ _ _ _ _ _ _ => rfl) fx_no) (fx_cnd (fx_cnd (fun _ _ _ _ _ _ _ _ => rfl) fx_no) (fx_cnd (fun _ _ _ _ _ _ _ _ => rfl) fx_no))) (fx_cnd (fx_cnd (fx_cnd (fun _ _ _ _ _ _ _ _ => rfl) fx_no) (fx_cnd (fun _ _ _ _ _ _ _ _ => rfl) fx_no)) (fx_cnd (fx_cnd (fun _ _ _ _ _ _ _ _ => rfl) fx_no) (fx_cnd (fun _ _ _ _ _ _ _ _ => rfl) fx_no)))
theorem fk_213_3 (X : ez_X) (pc : Nat) : fx_ok X (ft_213_3 X pc) (ez_t213_3 pc) := by
  delta ft_213_3 ez_t213_3
  exact fx_cnd (fk_213_1 X pc) (fk_213_2 X pc)
theorem fk_213_4 (X : ez_X) (pc : Nat) : fx_ok X (ft_213_4 X pc) (ez_t213_4 pc) := by
  delta ft_213_4 ez_t213_4
  exact fx_cnd (fk_213_0 X pc) (fk_213_3 X pc)
theorem fk_213_5 (X : ez_X) (pc : Nat) : fx_ok X (ft_213_5 X pc) (ez_t213_5 pc) := by
  delta ft_213_5 ez_t213_5
  exact fx_cnd (fx_cnd (fx_cnd (fx_cnd (fun _ _ _ _ _ _ _ _ => rfl) fx_no) (fx_cnd (fx_cnd (fun _ _ _ _ _ _ _ _ => rfl) fx_no) (fx_cnd (fun _ _ _ _ _ _ _ _ => rfl) fx_no))) (fx_cnd (fx_cnd (fun _ _ _ _ _ _ _ _ => rfl) fx_no) (fx_cnd (fx_cnd (fun _ _ _ _ _ _ _ _ => rfl) fx_no) (fx_cnd (fun _ _ _ _ _ _ _ _ => rfl) fx_no)))) (fx_cnd (fx_cnd (fx_cnd (fun _ _ _ _ _ _ _ _ => rfl) fx_no) (fx_cnd (fx_cnd (fun _ _ _ _ _ _ _ _ => rfl) fx_no) (fx_cnd (fun _ _ _ _ _ _ _ _ => rfl) fx_no))) (fx_cnd (fx_cnd (fun _ _ _ _ _ _ _ _ => rfl) fx_no) (fx_cnd (fx_cnd (fun _ _ _ _ _ _ _ _ => rfl) fx_no) (fx_cnd (fun _ _ _ _ _ _ _ _ => rfl) fx_no))))
theorem fk_213_6 (X : ez_X) (pc : Nat) : fx_ok X (ft_213_6 X pc) (ez_t213_6 pc) := by
  delta ft_213_6 ez_t213_6
  exact fx_cnd (fx_cnd (fx_cnd (fun _ _ _ _ _ _ _ _ => rfl) fx_no) (fx_cnd (fx_cnd (fun _ _ _ _ _ _ _ _ => rfl) fx_no) (fx_cnd (fun _ _ _ _ _ _ _ _ => rfl) fx_no))) (fx_cnd (fx_cnd (fun _ _ _ _ _ _ _ _ => rfl) fx_no) (fx_cnd (fx_cnd (fun _ _ _ _ _ _ _ _ => rfl) fx_no) (fx_cnd (fun _ _ _ _ _ _ _ _ => rfl) fx_no)))
theorem fk_213_7 (X : ez_X) (pc : Nat) : fx_ok X (ft_213_7 X pc) (ez_t213_7 pc) := by
  delta ft_213_7 ez_t213_7
  exact fx_cnd (fx_cnd (fx_cnd (fun _ _ _ _ _ _ _ _ => rfl) fx_no) (fx_cnd (fx_cnd (fun _ _ _ _ _ _ _ _ => rfl) fx_no) (fx_cnd (fun _ _ _ _ _ _ _ _ => rfl) fx_no))) (fx_cnd (fx_cnd (fx_cnd (fun _ _ _ _ _ _ _ _ => rfl) fx_no) (fx_cnd (fun _ _ _ _ _ _ _ _ => rfl) fx_no)) (fx_cnd (fx_cnd (fun _ _ _ _ _ _ _ _ => rfl) fx_no) (fx_cnd (fun _ _ _ _ _ _ _ _ => rfl) fx_no)))
theorem fk_213_8 (X : ez_X) (pc : Nat) : fx_ok X (ft_213_8 X pc) (ez_t213_8 pc) := by
  delta ft_213_8 ez_t213_8
  exact fx_cnd (fk_213_6 X pc) (fk_213_7 X pc)
theorem fk_213_9 (X : ez_X) (pc : Nat) : fx_ok X (ft_213_9 X pc) (ez_t213_9 pc) := by
  delta ft_213_9 ez_t213_9
  exact fx_cnd (fk_213_5 X pc) (fk_213_8 X pc)
theorem fk_213_10 (X : ez_X) (pc : Nat) : fx_ok X (ft_213_10 X pc) (ez_t213_10 pc) := by
  delta ft_213_10 ez_t213_10
  exact fx_cnd (fk_213_4 X pc) (fk_213_9 X pc)
theorem fk_213_11 (X : ez_X) (pc : Nat) : fx_ok X (ft_213_11 X pc) (ez_t213_11 pc) := by
  delta ft_213_11 ez_t213_11
  exact fx_cnd (fx_cnd (fx_cnd (fx_cnd (fun _ _ _ _ _ _ _ _ => rfl) fx_no) (fx_cnd (fx_cnd (fun _ _ _ _ _ _ _ _ => rfl) fx_no) (fx_cnd (fun _ _ _ _ _ _ _ _ => rfl) fx_no))) (fx_cnd (fx_cnd (fun _ _ _ _ _ _ _ _ => rfl) fx_no) (fx_cnd (fx_cnd (fun _ _ _ _ _ _ _ _ => rfl) fx_no) (fx_cnd (fun _ _ _ _ _ _ _ _ => rfl) fx_no)))) (fx_cnd (fx_cnd (fx_cnd (fun _ _ _ _ _ _ _ _ => rfl) fx_no) (fx_cnd (fx_cnd (fun _ _ _ _ _ _ _ _ => rfl) fx_no) (fx_cnd (fun _ _ _ _ _ _ _ _ => rfl) fx_no))) (fx_cnd (fx_cnd (fun _ _ _ _ _ _ _ _ => rfl) fx_no) (fx_cnd (fx_cnd (fun _ _ _ _ _ _ _ _ => rfl) fx_no) (fx_cnd (fun _ _ _ _ _ _ _ _ => rfl) fx_no))))
theorem fk_213_12 (X : ez_X) (pc : Nat) : fx_ok X (ft_213_12 X pc) (ez_t213_12 pc) := by
  delta ft_213_12 ez_t213_12
  exact fx_cnd (fx_cnd (fx_cnd (fun _ _ _ _ _ _ _ _ => rfl) fx_no) (fx_cnd (fx_cnd (fun _ _ _ _ _ _ _ _ => rfl) fx_no) (fx_cnd (fun _ _ _ _ _ _ _ _ => rfl) fx_no))) (fx_cnd (fx_cnd (fun _ _ _ _ _ _ _ _ => rfl) fx_no) (fx_cnd (fx_cnd (fun _ _ _ _ _ _ _ _ => rfl) fx_no) (fx_cnd (fun _ _ _ _ _ _ _ _ => rfl) fx_no)))
theorem fk_213_13 (X : ez_X) (pc : Nat) : fx_ok X (ft_213_13 X pc) (ez_t213_13 pc) := by
  delta ft_213_13 ez_t213_13
  exact fx_cnd (fx_cnd (fx_cnd (fun _ _ _ _ _ _ _ _ => rfl) fx_no) (fx_cnd (fx_cnd (fun _ _ _ _ _ _ _ _ => rfl) fx_no) (fx_cnd (fun _ _ _ _ _ _ _ _ => rfl) fx_no))) (fx_cnd (fx_cnd (fx_cnd (fun _ _ _ _ _ _ _ _ => rfl) fx_no) (fx_cnd (fun _ _ _ _ _ _ _ _ => rfl) fx_no)) (fx_cnd (fx_cnd (fun _ _ _ _ _ _ _ _ => rfl) fx_no) (fx_cnd (fun _ _ _ _ _ _ _ _ => rfl) fx_no)))
theorem fk_213_14 (X : ez_X) (pc : Nat) : fx_ok X (ft_213_14 X pc) (ez_t213_14 pc) := by
  delta ft_213_14 ez_t213_14
  exact fx_cnd (fk_213_12 X pc) (fk_213_13 X pc)
theorem fk_213_15 (X : ez_X) (pc : Nat) : fx_ok X (ft_213_15 X pc) (ez_t213_15 pc) := by
  delta ft_213_15 ez_t213_15
  exact fx_cnd (fk_213_11 X pc) (fk_213_14 X pc)
theorem fk_213_16 (X : ez_X) (pc : Nat) : fx_ok X (ft_213_16 X pc) (ez_t213_16 pc) := by
  delta ft_213_16 ez_t213_16
  exact fx_cnd (fx_cnd (fx_cnd (fx_cnd (fun _ _ _ _ _ _ _ _ => rfl) fx_no) (fx_cnd (fx_cnd (fun _ _ _ _ _ _ _ _ => rfl) fx_no) (fx_cnd (fun _ _ _ _ _ _ _ _ => rfl) fx_no))) (fx_cnd (fx_cnd (fun _ _ _ _ _ _ _ _ => rfl) fx_no) (fx_cnd (fx_cnd (fun _ _ _ _ _ _ _ _ => rfl) fx_no) (fx_cnd (fun _ _ _ _ _ _ _ _ => rfl) fx_no)))) (fx_cnd (fx_cnd (fx_cnd (fun _ _ _ _ _ _ _ _ => rfl) fx_no) (fx_cnd (fx_cnd (fun _ _ _ _ _ _ _ _ => rfl) fx_no) (fx_cnd (fun _ _ _ _ _ _ _ _ => rfl) fx_no))) (fx_cnd (fx_cnd (fun _ _ _ _ _ _ _ _ => rfl) fx_no) (fx_cnd (fx_cnd (fun _ _ _ _ _ _ _ _ => rfl) fx_no) (fx_cnd (fun _ _ _ _ _ _ _ _ => rfl) fx_no))))
theorem fk_213_17 (X : ez_X) (pc : Nat) : fx_ok X (ft_213_17 X pc) (ez_t213_17 pc) := by
  delta ft_213_17 ez_t213_17
  exact fx_cnd (fx_cnd (fx_cnd (fun _ _ _ _ _ _ _ _ => rfl) fx_no) (fx_cnd (fx_cnd (fun _ _ _ _ _ _ _ _ => rfl) fx_no) (fx_cnd (fun _ _ _ _ _ _ _ _ => rfl) fx_no))) (fx_cnd (fx_cnd (fun _ _ _ _ _ _ _ _ => rfl) fx_no) (fx_cnd (fx_cnd (fun _ _ _ _ _ _ _ _ => rfl) fx_no) (fx_cnd (fun _ _ _ _ _ _ _ _ => rfl) fx_no)))
theorem fk_213_18 (X : ez_X) (pc : Nat) : fx_ok X (ft_213_18 X pc) (ez_t213_18 pc) := by
  delta ft_213_18 ez_t213_18
  exact fx_cnd (fx_cnd (fx_cnd (fun _ _ _ _ _ _ _ _ => rfl) fx_no) (fx_cnd (fx_cnd (fun _ _ _ _ _ _ _ _ => rfl) fx_no) (fx_cnd (fun _ _ _ _ _ _ _ _ => rfl) fx_no))) (fx_cnd (fx_cnd (fx_cnd (fun _ _ _ _ _ _ _ _ => rfl) fx_no) (fx_cnd (fun _ _ _ _ _ _ _ _ => rfl) fx_no)) (fx_cnd (fx_cnd (fun _ _ _ _ _ _ _ _ => rfl) fx_no) (fx_cnd (fun _ _ _ _ _ _ _ _ => rfl) fx_no)))
theorem fk_213_19 (X : ez_X) (pc : Nat) : fx_ok X (ft_213_19 X pc) (ez_t213_19 pc) := by
  delta ft_213_19 ez_t213_19
  exact fx_cnd (fk_213_17 X pc) (fk_213_18 X pc)
theorem fk_213_20 (X : ez_X) (pc : Nat) : fx_ok X (ft_213_20 X pc) (ez_t213_20 pc) := by
  delta ft_213_20 ez_t213_20
  exact fx_cnd (fk_213_16 X pc) (fk_213_19 X pc)
theorem fk_213_21 (X : ez_X) (pc : Nat) : fx_ok X (ft_213_21 X pc) (ez_t213_21 pc) := by
  delta ft_213_21 ez_t213_21
  exact fx_cnd (fk_213_15 X pc) (fk_213_20 X pc)
theorem fk_213_22 (X : ez_X) (pc : Nat) : fx_ok X (ft_213_22 X pc) (ez_t213_22 pc) := by
  delta ft_213_22 ez_t213_22
  exact fx_cnd (fk_213_10 X pc) (fk_213_21 X pc)
theorem fk_213_23 (X : ez_X) (pc : Nat) : fx_ok X (ft_213_23 X pc) (ez_t213_23 pc) := by
  delta ft_213_23 ez_t213_23
  exact fx_cnd (fx_cnd (fx_cnd (fx_cnd (fun _ _ _ _ _ _ _ _ => rfl) fx_no) (fx_cnd (fx_cnd (fun _ _ _ _ _ _ _ _ => rfl) fx_no) (fx_cnd (fun _ _ _ _ _ _ _ _ => rfl) fx_no))) (fx_cnd (fx_cnd (fun _ _ _ _ _ _ _ _ => rfl) fx_no) (fx_cnd (fx_cnd (fun _ _ _ _ _ _ _ _ => rfl) fx_no) (fx_cnd (fun _ _ _ _ _ _ _ _ => rfl) fx_no)))) (fx_cnd (fx_cnd (fx_cnd (fun _ _ _ _ _ _ _ _ => rfl) fx_no) (fx_cnd (fx_cnd (fun _ _ _ _ _ _ _ _ => rfl) fx_no) (fx_cnd (fun _ _ _ _ _ _ _ _ => rfl) fx_no))) (fx_cnd (fx_cnd (fun _ _ _ _ _ _ _ _ => rfl) fx_no) (fx_cnd (fx_cnd (fun _ _ _ _ _ _ _ _ => rfl) fx_no) (fx_cnd (fun _ _ _ _ _ _ _ _ => rfl) fx_no))))
theorem fk_213_24 (X : ez_X) (pc : Nat) : fx_ok X (ft_213_24 X pc) (ez_t213_24 pc) := by
  delta ft_213_24 ez_t213_24
  exact fx_cnd (fx_cnd (fx_cnd (fun _ _ _ _ _ _ _ _ => rfl) fx_no) (fx_cnd (fx_cnd (fun _ _ _ _ _ _ _ _ => rfl) fx_no) (fx_cnd (fun _ _ _ _ _ _ _ _ => rfl) fx_no))) (fx_cnd (fx_cnd (fun _ _ _ _ _ _ _ _ => rfl) fx_no) (fx_cnd (fx_cnd (fun _ _ _ _ _ _ _ _ => rfl) fx_no) (fx_cnd (fun _ _ _ _ _ _ _ _ => rfl) fx_no)))
theorem fk_213_25 (X : ez_X) (pc : Nat) : fx_ok X (ft_213_25 X pc) (ez_t213_25 pc) := by
  delta ft_213_25 ez_t213_25
  exact fx_cnd (fx_cnd (fx_cnd (fun _ _ _ _ _ _ _ _ => rfl) fx_no) (fx_cnd (fx_cnd (fun _ _ _ _ _ _ _ _ => rfl) fx_no) (fx_cnd (fun _ _ _ _ _ _ _ _ => rfl) fx_no))) (fx_cnd (fx_cnd (fx_cnd (fun _ _ _ _ _ _ _ _ => rfl) fx_no) (fx_cnd (fun _ _ _ _ _ _ _ _ => rfl) fx_no)) (fx_cnd (fx_cnd (fun _ _ _ _ _ _ _ _ => rfl) fx_no) (fx_cnd (fun _ _ _ _ _ _ _ _ => rfl) fx_no)))
theorem fk_213_26 (X : ez_X) (pc : Nat) : fx_ok X (ft_213_26 X pc) (ez_t213_26 pc) := by
  delta ft_213_26 ez_t213_26
  exact fx_cnd (fk_213_24 X pc) (fk_213_25 X pc)
theorem fk_213_27 (X : ez_X) (pc : Nat) : fx_ok X (ft_213_27 X pc) (ez_t213_27 pc) := by
  delta ft_213_27 ez_t213_27
  exact fx_cnd (fk_213_23 X pc) (fk_213_26 X pc)
theorem fk_213_28 (X : ez_X) (pc : Nat) : fx_ok X (ft_213_28 X pc) (ez_t213_28 pc) := by
  delta ft_213_28 ez_t213_28
  exact fx_cnd (fx_cnd (fx_cnd (fx_cnd (fun _ _ _ _ _ _ _ _ => rfl) fx_no) (fx_cnd (fx_cnd (fun _ _ _ _ _ _ _ _ => rfl) fx_no) (fx_cnd (fun _ _ _ _ _ _ _ _ => rfl) fx_no))) (fx_cnd (fx_cnd (fun _ _ _ _ _ _ _ _ => rfl) fx_no) (fx_cnd (fx_cnd (fun _ _ _ _ _ _ _ _ => rfl) fx_no) (fx_cnd (fun _ _ _ _ _ _ _ _ => rfl) fx_no)))) (fx_cnd (fx_cnd (fx_cnd (fun _ _ _ _ _ _ _ _ => rfl) fx_no) (fx_cnd (fx_cnd (fun _ _ _ _ _ _ _ _ => rfl) fx_no) (fx_cnd (fun _ _ _ _ _ _ _ _ => rfl) fx_no))) (fx_cnd (fx_cnd (fun _ _ _ _ _ _ _ _ => rfl) fx_no) (fx_cnd (fx_cnd (fun _ _ _ _ _ _ _ _ => rfl) fx_no) (fx_cnd (fun _ _ _ _ _ _ _ _ => rfl) fx_no))))
theorem fk_213_29 (X : ez_X) (pc : Nat) : fx_ok X (ft_213_29 X pc) (ez_t213_29 pc) := by
  delta ft_213_29 ez_t213_29
  exact fx_cnd (fx_cnd (fx_cnd (fun _ _ _ _ _ _ _ _ => rfl) fx_no) (fx_cnd (fx_cnd (fun _ _ _ _ _ _ _ _ => rfl) fx_no) (fx_cnd (fun _ _ _ _ _ _ _ _ => rfl) fx_no))) (fx_cnd (fx_cnd (fun _ _ _ _ _ _ _ _ => rfl) fx_no) (fx_cnd (fx_cnd (fun _ _ _ _ _ _ _ _ => rfl) fx_no) (fx_cnd (fun _ _ _ _ _ _ _ _ => rfl) fx_no)))
theorem fk_213_30 (X : ez_X) (pc : Nat) : fx_ok X (ft_213_30 X pc) (ez_t213_30 pc) := by
  delta ft_213_30 ez_t213_30
  exact fx_cnd (fx_cnd (fx_cnd (fun _ _ _ _ _ _ _ _ => rfl) fx_no) (fx_cnd (fx_cnd (fun _ _ _ _ _ _ _ _ => rfl) fx_no) (fx_cnd (fun _ _ _ _ _ _ _ _ => rfl) fx_no))) (fx_cnd (fx_cnd (fx_cnd (fun _ _ _ _ _ _ _ _ => rfl) fx_no) (fx_cnd (fun _ _ _ _ _ _ _ _ => rfl) fx_no)) (fx_cnd (fx_cnd (fun _ _ _ _ _ _ _ _ => rfl) fx_no) (fx_cnd (fun _ _ _ _ _ _ _ _ => rfl) fx_no)))
theorem fk_213_31 (X : ez_X) (pc : Nat) : fx_ok X (ft_213_31 X pc) (ez_t213_31 pc) := by
  delta ft_213_31 ez_t213_31
  exact fx_cnd (fk_213_29 X pc) (fk_213_30 X pc)
theorem fk_213_32 (X : ez_X) (pc : Nat) : fx_ok X (ft_213_32 X pc) (ez_t213_32 pc) := by
  delta ft_213_32 ez_t213_32
  exact fx_cnd (fk_213_28 X pc) (fk_213_31 X pc)
theorem fk_213_33 (X : ez_X) (pc : Nat) : fx_ok X (ft_213_33 X pc) (ez_t213_33 pc) := by
  delta ft_213_33 ez_t213_33
  exact fx_cnd (fk_213_27 X pc) (fk_213_32 X pc)
theorem fk_213_34 (X : ez_X) (pc : Nat) : fx_ok X (ft_213_34 X pc) (ez_t213_34 pc) := by
  delta ft_213_34 ez_t213_34
  exact fx_cnd (fx_cnd (fx_cnd (fx_cnd (fun _ _ _ _ _ _ _ _ => rfl) fx_no) (fx_cnd (fx_cnd (fun _ _ _ _ _ _ _ _ => rfl) fx_no) (fx_cnd (fun _ _ _ _ _ _ _ _ => rfl) fx_no))) (fx_cnd (fx_cnd (fun _ _ _ _ _ _ _ _ => rfl) fx_no) (fx_cnd (fx_cnd (fun _ _ _ _ _ _ _ _ => rfl) fx_no) (fx_cnd (fun _ _ _ _ _ _ _ _ => rfl) fx_no)))) (fx_cnd (fx_cnd (fx_cnd (fun _ _ _ _ _ _ _ _ => rfl) fx_no) (fx_cnd (fx_cnd (fun _ _ _ _ _ _ _ _ => rfl) fx_no) (fx_cnd (fun _ _ _ _ _ _ _ _ => rfl) fx_no))) (fx_cnd (fx_cnd (fun _ _ _ _ _ _ _ _ => rfl) fx_no) (fx_cnd (fx_cnd (fun _ _ _ _ _ _ _ _ => rfl) fx_no) (fx_cnd (fun _ _ _ _ _ _ _ _ => rfl) fx_no))))
theorem fk_213_35 (X : ez_X) (pc : Nat) : fx_ok X (ft_213_35 X pc) (ez_t213_35 pc) := by
  delta ft_213_35 ez_t213_35
  exact fx_cnd (fx_cnd (fx_cnd (fun _ _ _ _ _ _ _ _ => rfl) fx_no) (fx_cnd (fx_cnd (fun _ _ _ _ _ _ _ _ => rfl) fx_no) (fx_cnd (fun _ _ _ _ _ _ _ _ => rfl) fx_no))) (fx_cnd (fx_cnd (fun _ _ _ _ _ _ _ _ => rfl) fx_no) (fx_cnd (fx_cnd (fun _ _ _ _ _ _ _ _ => rfl) fx_no) (fx_cnd (fun _ _ _ _ _ _ _ _ => rfl) fx_no)))
theorem fk_213_36 (X : ez_X) (pc : Nat) : fx_ok X (ft_213_36 X pc) (ez_t213_36 pc) := by
  delta ft_213_36 ez_t213_36
  exact fx_cnd (fx_cnd (fx_cnd (fun _ _ _ _ _ _ _ _ => rfl) fx_no) (fx_cnd (fx_cnd (fun _ _ _ _ _ _ _ _ => rfl) fx_no) (fx_cnd (fun _ _ _ _ _ _ _ _ => rfl) fx_no))) (fx_cnd (fx_cnd (fx_cnd (fun _ _ _ _ _ _ _ _ => rfl) fx_no) (fx_cnd (fun _ _ _ _ _ _ _ _ => rfl) fx_no)) (fx_cnd (fx_cnd (fun _ _ _ _ _ _ _ _ => rfl) fx_no) (fx_cnd (fun _ _ _ _ _ _ _ _ => rfl) fx_no)))
theorem fk_213_37 (X : ez_X) (pc : Nat) : fx_ok X (ft_213_37 X pc) (ez_t213_37 pc) := by
  delta ft_213_37 ez_t213_37
  exact fx_cnd (fk_213_35 X pc) (fk_213_36 X pc)
theorem fk_213_38 (X : ez_X) (pc : Nat) : fx_ok X (ft_213_38 X pc) (ez_t213_38 pc) := by
  delta ft_213_38 ez_t213_38
  exact fx_cnd (fk_213_34 X pc) (fk_213_37 X pc)
theorem fk_213_39 (X : ez_X) (pc : Nat) : fx_ok X (ft_213_39 X pc) (ez_t213_39 pc) := by
  delta ft_213_39 ez_t213_39
  exact fx_cnd (fx_cnd (fx_cnd (fx_cnd (fun _ _ _ _ _ _ _ _ => rfl) fx_no) (fx_cnd (fx_cnd (fun _ _ _ _ _ _ _ _ => rfl) fx_no) (fx_cnd (fun _ _ _ _ _ _ _ _ => rfl) fx_no))) (fx_cnd (fx_cnd (fun _ _ _ _ _ _ _ _ => rfl) fx_no) (fx_cnd (fx_cnd (fun _ _ _ _ _ _ _ _ => rfl) fx_no) (fx_cnd (fun _ _ _ _ _ _ _ _ => rfl) fx_no)))) (fx_cnd (fx_cnd (fx_cnd (fun _ _ _ _ _ _ _ _ => rfl) fx_no) (fx_cnd (fx_cnd (fun _ _ _ _ _ _ _ _ => rfl) fx_no) (fx_cnd (fun _ _ _ _ _ _ _ _ => rfl) fx_no))) (fx_cnd (fx_cnd (fun _ _ _ _ _ _ _ _ => rfl) fx_no) (fx_cnd (fx_cnd (fun _ _ _ _ _ _ _ _ => rfl) fx_no) (fx_cnd (fun _ _ _ _ _ _ _ _ => rfl) fx_no))))
theorem fk_213_40 (X : ez_X) (pc : Nat) : fx_ok X (ft_213_40 X pc) (ez_t213_40 pc) := by
  delta ft_213_40 ez_t213_40
  exact fx_cnd (fx_cnd (fx_cnd (fun _ _ _ _ _ _ _ _ => rfl) fx_no) (fx_cnd (fx_cnd (fun _ _ _ _ _ _ _ _ => rfl) fx_no) (fx_cnd (fun _ _ _ _ _ _ _ _ => rfl) fx_no))) (fx_cnd (fx_cnd (fun _ _ _ _ _ _ _ _ => rfl) fx_no) (fx_cnd (fx_cnd (fun _ _ _ _ _ _ _ _ => rfl) fx_no) (fx_cnd (fun _ _ _ _ _ _ _ _ => rfl) fx_no)))
theorem fk_213_41 (X : ez_X) (pc : Nat) : fx_ok X (ft_213_41 X pc) (ez_t213_41 pc) := by
  delta ft_213_41 ez_t213_41
  exact fx_cnd (fx_cnd (fx_cnd (fun _ _ _ _ _ _ _ _ => rfl) fx_no) (fx_cnd (fx_cnd (fun _ _ _ _ _ _ _ _ => rfl) fx_no) (fx_cnd (fun _ _ _ _ _ _ _ _ => rfl) fx_no))) (fx_cnd (fx_cnd (fx_cnd (fun _ _ _ _ _ _ _ _ => rfl) fx_no) (fx_cnd (fun _ _ _ _ _ _ _ _ => rfl) fx_no)) (fx_cnd (fx_cnd (fun _ _ _ _ _ _ _ _ => rfl) fx_no) (fx_cnd (fun _ _ _ _ _ _ _ _ => rfl) fx_no)))
theorem fk_213_42 (X : ez_X) (pc : Nat) : fx_ok X (ft_213_42 X pc) (ez_t213_42 pc) := by
  delta ft_213_42 ez_t213_42
  exact fx_cnd (fk_213_40 X pc) (fk_213_41 X pc)
theorem fk_213_43 (X : ez_X) (pc : Nat) : fx_ok X (ft_213_43 X pc) (ez_t213_43 pc) := by
  delta ft_213_43 ez_t213_43
  exact fx_cnd (fk_213_39 X pc) (fk_213_42 X pc)
theorem fk_213_44 (X : ez_X) (pc : Nat) : fx_ok X (ft_213_44 X pc) (ez_t213_44 pc) := by
  delta ft_213_44 ez_t213_44
  exact fx_cnd (fk_213_38 X pc) (fk_213_43 X pc)
theorem fk_213_45 (X : ez_X) (pc : Nat) : fx_ok X (ft_213_45 X pc) (ez_t213_45 pc) := by
  delta ft_213_45 ez_t213_45
  exact fx_cnd (fk_213_33 X pc) (fk_213_44 X pc)
theorem fk_213 (X : ez_X) (pc : Nat) : fx_ok X (ft_213 X pc) (ez_t213 pc) := by
  delta ft_213 ez_t213
  exact fx_cnd (fk_213_22 X pc) (fk_213_45 X pc)
theorem fk_214_0 (X : ez_X) (pc : Nat) : fx_ok X (ft_214_0 X pc) (ez_t214_0 pc) := by
  delta ft_214_0 ez_t214_0
  exact fx_cnd (fx_cnd (fx_cnd (fun _ _ _ _ _ _ _ _ => rfl) fx_no) (fx_cnd (fx_cnd (fun _ _ _ _ _ _ _ _ => rfl) fx_no) (fx_cnd (fun _ _ _ _ _ _ _ _ => rfl) fx_no))) (fx_cnd (fx_cnd (fx_cnd (fun _ _ _ _ _ _ _ _ => rfl) fx_no) (fx_cnd (fun _ _ _ _ _ _ _ _ => rfl) fx_no)) (fx_cnd (fx_cnd (fun _ _ _ _ _ _ _ _ => rfl) fx_no) (fx_cnd (fun _ _ _ _ _ _ _ _ => rfl) fx_no)))
theorem fk_214_1 (X : ez_X) (pc : Nat) : fx_ok X (ft_214_1 X pc) (ez_t214_1 pc) := by
  delta ft_214_1 ez_t214_1
  exact fx_cnd (fx_cnd (fx_cnd (fun _ _ _ _ _ _ _ _ => rfl) fx_no) (fx_cnd (fx_cnd (fun _ _ _ _ _ _ _ _ => rfl) fx_no) (fx_cnd (fun _ _ _ _ _ _ _ _ => rfl) fx_no))) (fx_cnd (fx_cnd (fx_cnd (fun _ _ _ _ _ _ _ _ => rfl) fx_no) (fx_cnd (fun _ _ _ _ _ _ _ _ => rfl) fx_no)) (fx_cnd (fx_cnd (fun _ _ _ _ _ _ _ _ => rfl) fx_no) (fx_cnd (fun _ _ _ _ _ _ _ _ => rfl) fx_no)))
theorem fk_214_2 (X : ez_X) (pc : Nat) : fx_ok X (ft_214_2 X pc) (ez_t214_2 pc) := by
  delta ft_214_2 ez_t214_2
  exact fx_cnd (fk_214_0 X pc) (fk_214_1 X pc)
theorem fk_214_3 (X : ez_X) (pc : Nat) : fx_ok X (ft_214_3 X pc) (ez_t214_3 pc) := by
  delta ft_214_3 ez_t214_3
  exact fx_cnd (fx_cnd (fx_cnd (fun _ _ _ _ _ _ _ _ => rfl) fx_no) (fx_cnd (fx_cnd (fun _ _ _ _ _ _ _ _ => rfl) fx_no) (fx_cnd (fun _ _ _ _ _ _ _ _ => rfl) fx_no))) (fx_cnd (fx_cnd (fx_cnd (fun _ _ _ _ _ _ _ _ => rfl) fx_no) (fx_cnd (fun _ _ _ _ _ _ _ _ => rfl) fx_no)) (fx_cnd (fx_cnd (fun _ _ _ _ _ _ _ _ => rfl) fx_no) (fx_cnd (fun _ _ _ _ _ _ _ _ => rfl) fx_no)))
theorem fk_214_4 (X : ez_X) (pc : Nat) : fx_ok X (ft_214_4 X pc) (ez_t214_4 pc) := by
  delta ft_214_4 ez_t214_4
  exact fx_cnd (fx_cnd (fx_cnd (fx_cnd (fun _ _ _ _ _ _ _ _ => rfl) fx_no) (fx_cnd (fun _ _ _ _ _ _ _ _ => rfl) fx_no)) (fx_cnd (fx_cnd (fun _ _ _ _ _ _ _ _ => rfl) fx_no) (fx_cnd (fun _ _ _ _ _ _ _ _ => rfl) fx_no))) (fx_cnd (fx_cnd (fx_cnd (fun _ _ _ _ _ _ _ _ => rfl) fx_no) (fx_cnd (fun _ _ _ _ _ _ _ _ => rfl) fx_no)) (fx_cnd (fx_cnd (fun _ _ _ _ _ _ _ _ => rfl) fx_no) (fx_cnd (fun _ _ _ _ _ _ _ _ => rfl) fx_no)))
theorem fk_214_5 (X : ez_X) (pc : Nat) : fx_ok X (ft_214_5 X pc) (ez_t214_5 pc) := by
  delta ft_214_5 ez_t214_5
  exact fx_cnd (fk_214_3 X pc) (fk_214_4 X pc)
theorem fk_214 (X : ez_X) (pc : Nat) : fx_ok X (ft_214 X pc) (ez_t214 pc) := by
  delta ft_214 ez_t214
  exact fx_cnd (fk_214_2 X pc) (fk_214_5 X pc)
theorem fk_215_0 (X : ez_X) (pc : Nat) : fx_ok X (ft_215_0 X pc) (ez_t215_0 pc) := by
  delta ft_215_0 ez_t215_0
  exact fx_cnd (fx_cnd (fx_cnd (fx_cnd (fun _ _ _ _ _ _ _ _ => rfl) fx_no) (fx_cnd (fun _ _ _ _ _ _ _ _ => rfl) fx_no)) (fx_cnd (fx_cnd (fun _ _ _ _ _ _ _ _ => rfl) fx_no) (fx_cnd (fun _ _ _ _ _ _ _ _ => rfl) fx_no))) (fx_cnd (fx_cnd (fx_cnd (fun _ _ _ _ _ _ _ _ => rfl) fx_no) (fx_cnd (fun _ _ _ _ _ _ _ _ => rfl) fx_no)) (fx_cnd (fx_cnd (fun _ _ _ _ _ _ _ _ => rfl) fx_no) (fx_cnd (fun _ _ _ _ _ _ _ _ => rfl) fx_no)))
theorem fk_215_1 (X : ez_X) (pc : Nat) : fx_ok X (ft_215_1 X pc) (ez_t215_1 pc) := by
  delta ft_215_1 ez_t215_1
  exact fx_cnd (fx_cnd (fx_cnd (fx_cnd (fun _ _ _ _ _ _ _ _ => rfl) fx_no) (fx_cnd (fun _ _ _ _ _ _ _ _ => rfl) fx_no)) (fx_cnd (fx_cnd (fun _ _ _ _ _ _ _ _ => rfl) fx_no) (fx_cnd (fun _ _ _ _ _ _ _ _ => rfl) fx_no))) (fx_cnd (fx_cnd (fx_cnd (fun _ _ _ _ _ _ _ _ => rfl) fx_no) (fx_cnd (fun _ _ _ _ _ _ _ _ => rfl) fx_no)) (fx_cnd (fx_cnd (fun _ _ _ _ _ _ _ _ => rfl) fx_no) (fx_cnd (fun _ _ _ _ _ _ _ _ => rfl) fx_no)))
theorem fk_215_2 (X : ez_X) (pc : Nat) : fx_ok X (ft_215_2 X pc) (ez_t215_2 pc) := by
  delta ft_215_2 ez_t215_2
  exact fx_cnd (fk_215_0 X pc) (fk_215_1 X pc)
theorem fk_215_3 (X : ez_X) (pc : Nat) : fx_ok X (ft_215_3 X pc) (ez_t215_3 pc) := by
  delta ft_215_3 ez_t215_3
  exact fx_cnd (fx_cnd (fx_cnd (fx_cnd (fun _ _ _ _ _ _ _ _ => rfl) fx_no) (fx_cnd (fun _ _ _ _ _ _ _ _ => rfl) fx_no)) (fx_cnd (fx_cnd (fun _ _ _ _ _ _ _ _ => rfl) fx_no) (fx_cnd (fun _ _ _ _ _ _ _ _ => rfl) fx_no))) (fx_cnd (fx_cnd (fx_cnd (fun _ _ _ _ _ _ _ _ => rfl) fx_no) (fx_cnd (fun _ _ _ _ _ _ _ _ => rfl) fx_no)) (fx_cnd (fx_cnd (fun _ _ _ _ _ _ _ _ => rfl) fx_no) (fx_cnd (fun _ _ _ _ _ _ _ _ => rfl) fx_no)))
theorem fk_215_4 (X : ez_X) (pc : Nat) : fx_ok X (ft_215_4 X pc) (ez_t215_4 pc) := by
  delta ft_215_4 ez_t215_4
  exact fx_cnd (fx_cnd (fx_cnd (fx_cnd (fun _ _ _ _ _ _ _ _ => rfl) fx_no) (fx_cnd (fun _ _ _ _ _ _ _ _ => rfl) fx_no)) (fx_cnd (fx_cnd (fun _ _ _ _ _ _ _ _ => rfl) fx_no) (fx_cnd (fun _ _ _ _ _ _ _ _ => rfl) fx_no))) (fx_cnd (fx_cnd (fx_cnd (fun _ _ _ _ _ _ _ _ => rfl) fx_no) (fx_cnd (fun _ _ _ _ _ _ _ _ => rfl) fx_no)) (fx_cnd (fx_cnd (fun _ _ _ _ _ _ _ _ => rfl) fx_no) (fx_cnd (fx_cnd (fun _ _ _ _ _ _ _ _ => rfl) fx_no) (fx_cnd (fun _ _ _ _ _ _ _ _ => rfl) fx_no))))
theorem fk_215_5 (X : ez_X) (pc : Nat) : fx_ok X (ft_215_5 X pc) (ez_t215_5 pc) := by
  delta ft_215_5 ez_t215_5
  exact fx_cnd (fk_215_3 X pc) (fk_215_4 X pc)
theorem fk_215 (X : ez_X) (pc : Nat) : fx_ok X (ft_215 X pc) (ez_t215 pc) := by
  delta ft_215 ez_t215
  exact fx_cnd (fk_215_2 X pc) (fk_215_5 X pc)
theorem fk_216_0 (X : ez_X) (pc : Nat) : fx_ok X (ft_216_0 X pc) (ez_t216_0 pc) := by
  delta ft_216_0 ez_t216_0
  exact fx_cnd (fx_cnd (fx_cnd (fun _ _ _ _ _ _ _ _ => rfl) fx_no) (fx_cnd (fx_cnd (fun _ _ _ _ _ _ _ _ => rfl) fx_no) (fx_cnd (fun _ _ _ _ _ _ _ _ => rfl) fx_no))) (fx_cnd (fx_cnd (fx_cnd (fun _ _ _ _ _ _ _ _ => rfl) fx_no) (fx_cnd (fun _ _ _ _ _ _ _ _ => rfl) fx_no)) (fx_cnd (fx_cnd (fun _ _ _ _ _ _ _ _ => rfl) fx_no) (fx_cnd (fun _ _ _ _ _ _ _ _ => rfl) fx_no)))
theorem fk_216_1 (X : ez_X) (pc : Nat) : fx_ok X (ft_216_1 X pc) (ez_t216_1 pc) := by
  delta ft_216_1 ez_t216_1
  exact fx_cnd (fx_cnd (fx_cnd (fx_cnd (fun _ _ _ _ _ _ _ _ => rfl) fx_no) (fx_cnd (fun _ _ _ _ _ _ _ _ => rfl) fx_no)) (fx_cnd (fx_cnd (fun _ _ _ _ _ _ _ _ => rfl) fx_no) (fx_cnd (fun _ _ _ _ _ _ _ _ => rfl) fx_no))) (fx_cnd (fx_cnd (fx_cnd (fun _ _ _ _ _ _ _ _ => rfl) fx_no) (fx_cnd (fun _ _ _ _ _ _ _ _ => rfl) fx_no)) (fx_cnd (fx_cnd (fun _ _ _ _ _ _ _ _ => rfl) fx_no) (fx_cnd (fun _ _ _ _ _ _ _ _ => rfl) fx_no)))
theorem fk_216_2 (X : ez_X) (pc : Nat) : fx_ok X (ft_216_2 X pc) (ez_t216_2 pc) := by
  delta ft_216_2 ez_t216_2
  exact fx_cnd (fk_216_0 X pc) (fk_216_1 X pc)
theorem fk_216_3 (X : ez_X) (pc : Nat) : fx_ok X (ft_216_3 X pc) (ez_t216_3 pc) := by
  delta ft_216_3 ez_t216_3
  exact fx_cnd (fx_cnd (fx_cnd (fun _ _ _ _ _ _ _ _ => rfl) fx_no) (fx_cnd (fx_cnd (fun _ _ _ _ _ _ _ _ => rfl) fx_no) (fx_cnd (fun _ _ _ _ _ _ _ _ => rfl) fx_no))) (fx_cnd (fx_cnd (fx_cnd (fun _ _ _ _ _ _ _ _ => rfl) fx_no) (fx_cnd (fun _ _ _ _ _ _ _ _ => rfl) fx_no)) (fx_cnd (fx_cnd (fun _ _ _ _ _ _ _ _ => rfl) fx_no) (fx_cnd (fun _ _ _ _ _ _ _ _ => rfl) fx_no)))
theorem fk_216_4 (X : ez_X) (pc : Nat) : fx_ok X (ft_216_4 X pc) (ez_t216_4 pc) := by
  delta ft_216_4 ez_t216_4
  exact fx_cnd (fx_cnd (fx_cnd (fx_cnd (fun _ _ _ _ _ _ _ _ => rfl) fx_no) (fx_cnd (fun _ _ _ _ _ _ _ _ => rfl) fx_no)) (fx_cnd (fx_cnd (fun _ _ _ _ _ _ _ _ => rfl) fx_no) (fx_cnd (fun _ _ _ _ _ _ _ _ => rfl) fx_no))) (fx_cnd (fx_cnd (fx_cnd (fun _ _ _ _ _ _ _ _ => rfl) fx_no) (fx_cnd (fun _ _ _ _ _ _ _ _ => rfl) fx_no)) (fx_cnd (fx_cnd (fun _ _ _ _ _ _ _ _ => rfl) fx_no) (fx_cnd (fun _ _ _ _ _ _ _ _ => rfl) fx_no)))
theorem fk_216_5 (X : ez_X) (pc : Nat) : fx_ok X (ft_216_5 X pc) (ez_t216_5 pc) := by
  delta ft_216_5 ez_t216_5
  exact fx_cnd (fk_216_3 X pc) (fk_216_4 X pc)
theorem fk_216_6 (X : ez_X) (pc : Nat) : fx_ok X (ft_216_6 X pc) (ez_t216_6 pc) := by
  delta ft_216_6 ez_t216_6
  exact fx_cnd (fk_216_2 X pc) (fk_216_5 X pc)
theorem fk_216_7 (X : ez_X) (pc : Nat) : fx_ok X (ft_216_7 X pc) (ez_t216_7 pc) := by
  delta ft_216_7 ez_t216_7
  exact fx_cnd (fx_cnd (fx_cnd (fun _ _ _ _ _ _ _ _ => rfl) fx_no) (fx_cnd (fx_cnd (fun _ _ _ _ _ _ _ _ => rfl) fx_no) (fx_cnd (fun _ _ _ _ _ _ _ _ => rfl) fx_no))) (fx_cnd (fx_cnd (fx_cnd (fun _ _ _ _ _ _ _ _ => rfl) fx_no) (fx_cnd (fun _ _ _ _ _ _ _ _ => rfl) fx_no)) (fx_cnd (fx_cnd (fun _ _ _ _ _ _ _ _ => rfl) fx_no) (fx_cnd (fun _ _ _ _ _ _ _ _ => rfl) fx_no)))
theorem fk_216_8 (X : ez_X) (pc : Nat) : fx_ok X (ft_216_8 X pc) (ez_t216_8 pc) := by
  delta ft_216_8 ez_t216_8
  exact fx_cnd (fx_cnd (fx_cnd (fx_cnd (fun _ _ _ _ _ _ _ _ => rfl) fx_no) (fx_cnd (fun _ _ _ _ _ _ _ _ => rfl) fx_no)) (fx_cnd (fx_cnd (fun _ _ _ _ _ _ _ _ => rfl) fx_no) (fx_cnd (fun _ _ _ _ _ _ _ _ => rfl) fx_no))) (fx_cnd (fx_cnd (fx_cnd (fun _ _ _ _ _ _ _ _ => rfl) fx_no) (fx_cnd (fun _ _ _ _ _ _ _ _ => rfl) fx_no)) (fx_cnd (fx_cnd (fun _ _ _ _ _ _ _ _ => rfl) fx_no) (fx_cnd (fun _ _ _ _ _ _ _ _ => rfl) fx_no)))
theorem fk_216_9 (X : ez_X) (pc : Nat) : fx_ok X (ft_216_9 X pc) (ez_t216_9 pc) := by
  delta ft_216_9 ez_t216_9
  exact fx_cnd (fk_216_7 X pc) (fk_216_8 X pc)
theorem fk_216_10 (X : ez_X) (pc : Nat) : fx_ok X (ft_216_10 X pc) (ez_t216_10 pc) := by
  delta ft_216_10 ez_t216_10
  exact fx_cnd (fx_cnd (fx_cnd (fun _ _ _ _ _ _ _ _ => rfl) fx_no) (fx_cnd (fx_cnd (fun _ _ _ _ _ _ _ _ => rfl) fx_no) (fx_cnd (fun _ _ _ _ _ _ _ _ => rfl) fx_no))) (fx_cnd (fx_cnd (fx_cnd (fun _ _ _ _ _ _ _ _ => rfl) fx_no) (fx_cnd (fun _ _ _ _ _ _ _ _ => rfl) fx_no)) (fx_cnd (fx_cnd (fun _ _ _ _ _ _ _ _ => rfl) fx_no) (fx_cnd (fun _ _ _ _ _ _ _ _ => rfl) fx_no)))
theorem fk_216_11 (X : ez_X) (pc : Nat) : fx_ok X (ft_216_11 X pc) (ez_t216_11 pc) := by
  delta ft_216_11 ez_t216_11
  exact fx_cnd (fx_cnd (fx_cnd (fx_cnd (fun _ _ _ _ _ _ _ _ => rfl) fx_no) (fx_cnd (fun _ _ _ _ _ _ _ _ => rfl) fx_no)) (fx_cnd (fx_cnd (fun _ _ _ _ _ _ _ _ => rfl) fx_no) (fx_cnd (fun _ _ _ _ _ _ _ _ => rfl) fx_no))) (fx_cnd (fx_cnd (fx_cnd (fun _ _ _ _ _ _ _ _ => rfl) fx_no) (fx_cnd (fun _ _ _ _ _ _ _ _ => rfl) fx_no)) (fx_cnd (fx_cnd (fun _ _ _ _ _ _ _ _ => rfl) fx_no) (fx_cnd (fun _ _ _ _ _ _ _ _ => rfl) fx_no)))
theorem fk_216_12 (X : ez_X) (pc : Nat) : fx_ok X (ft_216_12 X pc) (ez_t216_12 pc) := by
  delta ft_216_12 ez_t216_12
  exact fx_cnd (fk_216_10 X pc) (fk_216_11 X pc)
theorem fk_216_13 (X : ez_X) (pc : Nat) : fx_ok X (ft_216_13 X pc) (ez_t216_13 pc) := by
  delta ft_216_13 ez_t216_13
  exact fx_cnd (fk_216_9 X pc) (fk_216_12 X pc)
theorem fk_216 (X : ez_X) (pc : Nat) : fx_ok X (ft_216 X pc) (ez_t216 pc) := by
  delta ft_216 ez_t216
  exact fx_cnd (fk_216_6 X pc) (fk_216_13 X pc)
theorem fk_217_0 (X : ez_X) (pc : Nat) : fx_ok X (ft_217_0 X pc) (ez_t217_0 pc) := by
  delta ft_217_0 ez_t217_0
  exact fx_cnd (fx_cnd (fx_cnd (fx_cnd (fun _ _ _ _ _ _ _ _ => rfl) fx_no) (fx_cnd (fx_cnd (fun _ _ _ _ _ _ _ _ => rfl) fx_no) (fx_cnd (fun _ _ _ _ _ _ _ _ => rfl) fx_no))) (fx_cnd (fx_cnd (fun _ _ _ _ _ _ _ _ => rfl) fx_no) (fx_cnd (fx_cnd (fun _ _ _ _ _ _ _ _ => rfl) fx_no) (fx_cnd (fun _ _ _ _ _ _ _ _ => rfl) fx_no)))) (fx_cnd (fx_cnd (fx_cnd (fun _ _ _ _ _ _ _ _ => rfl) fx_no) (fx_cnd (fx_cnd (fun _ _ _ _ _ _ _ _ => rfl) fx_no) (fx_cnd (fun _ _ _ _ _ _ _ _ => rfl) fx_no))) (fx_cnd (fx_cnd (fun _ _ _ _ _ _ _ _ => rfl) fx_no) (fx_cnd (fx_cnd (fun _ _ _ _ _ _ _ _ => rfl) fx_no) (fx_cnd (fun _ _ _ _ _ _ _ _ => rfl) fx_no))))
theorem fk_217_1 (X : ez_X) (pc : Nat) : fx_ok X (ft_217_1 X pc) (ez_t217_1 pc) := by
  delta ft_217_1 ez_t217_1
  exact fx_cnd (fx_cnd (fx_cnd (fx_cnd (fun _ _ _ _ _ _ _ _ => rfl) fx_no) (fx_cnd (fx_cnd (fun _ _ _ _ _ _ _ _ => rfl) fx_no) (fx_cnd (fun _ _ _ _ _ _ _ _ => rfl) fx_no))) (fx_cnd (fx_cnd (fun _ _ _ _ _ _ _ _ => rfl) fx_no) (fx_cnd (fx_cnd (fun _ _ _ _ _ _ _ _ => rfl) fx_no) (fx_cnd (fun _ _ _ _ _ _ _ _ => rfl) fx_no)))) (fx_cnd (fx_cnd (fx_cnd (fun _ _ _ _ _ _ _ _ => rfl) fx_no) (fx_cnd (fx_cnd (fun _ _ _ _ _ _ _ _ => rfl) fx_no) (fx_cnd (fun _ _ _ _ _ _ _ _ => rfl) fx_no))) (fx_cnd (fx_cnd (fun _ _ _ _ _ _ _ _ => rfl) fx_no) (fx_cnd (fx_cnd (fun _ _ _ _ _ _ _ _ => rfl) fx_no) (fx_cnd (fun _ _ _ _ _ _ _ _ => rfl) fx_no))))
theorem fk_217 (X : ez_X) (pc : Nat) : fx_ok X (ft_217 X pc) (ez_t217 pc) := by
  delta ft_217 ez_t217
  exact fx_cnd (fk_217_0 X pc) (fk_217_1 X pc)
theorem fk_218_0 (X : ez_X) (pc : Nat) : fx_ok X (ft_218_0 X pc) (ez_t218_0 pc) := by
  delta ft_218_0 ez_t218_0
  exact fx_cnd (fx_cnd (fx_cnd (fx_cnd (fun _ _ _ _ _ _ _ _ => rfl) fx_no) (fx_cnd (fx_cnd (fun _ _ _ _ _ _ _ _ => rfl) fx_no) (fx_cnd (fun _ _ _ _ _ _ _ _ => rfl) fx_no))) (fx_cnd (fx_cnd (fun _ _ _ _ _ _ _ _ => rfl) fx_no) (fx_cnd (fx_cnd (fun _ _ _ _ _ _ _ _ => rfl) fx_no) (fx_cnd (fun _ _ _ _ _ _ _ _ => rfl) fx_no)))) (fx_cnd (fx_cnd (fx_cnd (fun _ _ _ _ _ _ _ _ => rfl) fx_no) (fx_cnd (fx_cnd (fun _ _ _ _ _ _ _ _ => rfl) fx_no) (fx_cnd (fun _ _ _ _ _ _ _ _ => rfl) fx_no))) (fx_cnd (fx_cnd (fun _ _ _ _ _ _ _ _ => rfl) fx_no) (fx_cnd (fx_cnd (fun _ _ _ _ _ _ _ _ => rfl) fx_no) (fx_cnd (fun _ _ _ _ _ _ _ _ => rfl) fx_no))))
theorem fk_218_1 (X : ez_X) (pc : Nat) : fx_ok X (ft_218_1 X pc) (ez_t218_1 pc) := by
  delta ft_218_1 ez_t218_1
  exact fx_cnd (fx_cnd (fx_cnd (fun _ _ _ _ _ _ _ _ => rfl) fx_no) (fx_cnd (fx_cnd (fun _ _ _ _ _ _ _ _ => rfl) fx_no) (fx_cnd (fun _ _ _ _ _ _ _ _ => rfl) fx_no))) (fx_cnd (fx_cnd (fun _ _ _ _ _ _ _ _ => rfl) fx_no) (fx_cnd (fx_cnd (fun _ _ _ _ _ _ _ _ => rfl) fx_no) (fx_cnd (fun _ _ _ _ _ _ _ _ => rfl) fx_no)))
theorem fk_218_2 (X : ez_X) (pc : Nat) : fx_ok X (ft_218_2 X pc) (ez_t218_2 pc) := by
  delta ft_218_2 ez_t218_2
  exact fx_cnd (fx_cnd (fx_cnd (fun _ _ _ _ _ _ _ _ => rfl) fx_no) (fx_cnd (fx_cnd (fun _ _ _ _ _ _ _ _ => rfl) fx_no) (fx_cnd (fun _ _ _ _ _ _ _ _ => rfl) fx_no))) (fx_cnd (fx_cnd (fx_cnd (fun _ _ _ _ _ _ _ _ => rfl) fx_no) (fx_cnd (fun _ _ _ _ _ _ _ _ => rfl) fx_no)) (fx_cnd (fx_cnd (fun _ _ _ _ _ _ _ _ => rfl) fx_no) (fx_cnd (fun _ _ _ _ _ _ _ _ => rfl) fx_no)))
theorem fk_218_3 (X : ez_X) (pc : Nat) : fx_ok X (ft_218_3 X pc) (ez_t218_3 pc) := by
  delta ft_218_3 ez_t218_3
  exact fx_cnd (fk_218_1 X pc) (fk_218_2 X pc)
theorem fk_218_4 (X : ez_X) (pc : Nat) : fx_ok X (ft_218_4 X pc) (ez_t218_4 pc) := by
  delta ft_218_4 ez_t218_4
  exact fx_cnd (fk_218_0 X pc) (fk_218_3 X pc)
theorem fk_218_5 (X : ez_X) (pc : Nat) : fx_ok X (ft_218_5 X pc) (ez_t218_5 pc) := by
  delta ft_218_5 ez_t218_5
  exact fx_cnd (fx_cnd (fx_cnd (fx_cnd (fun _ _ _ _ _ _ _ _ => rfl) fx_no) (fx_cnd (fx_cnd (fun _ _ _ _ _ _ _ _ => rfl) fx_no) (fx_cnd (fun _ _ _ _ _ _ _ _ => rfl) fx_no))) (fx_cnd (fx_cnd (fun _ _ _ _ _ _ _ _ => rfl) fx_no) (fx_cnd (fx_cnd (fun _ _ _ _ _ _ _ _ => rfl) fx_no) (fx_cnd (fun _ _ _ _ _ _ _ _ => rfl) fx_no)))) (fx_cnd (fx_cnd (fx_cnd (fun _ _ _ _ _ _ _ _ => rfl) fx_no) (fx_cnd (fx_cnd (fun _ _ _ _ _ _ _ _ => rfl) fx_no) (fx_cnd (fun _ _ _ _ _ _ _ _ => rfl) fx_no))) (fx_cnd (fx_cnd (fun _ _ _ _ _ _ _ _ => rfl) fx_no) (fx_cnd (fx_cnd (fun _ _ _ _ _ _ _ _ => rfl) fx_no) (fx_cnd (fun _ _ _ _ _ _ _ _ => rfl) fx_no))))
theorem fk_218_6 (X : ez_X) (pc : Nat) : fx_ok X (ft_218_6 X pc) (ez_t218_6 pc) := by
  delta ft_218_6 ez_t218_6
  exact fx_cnd (fx_cnd (fx_cnd (fun _ _ _ _ _ _ _ _ => rfl) fx_no) (fx_cnd (fx_cnd (fun _ _ _ _ _ _ _ _ => rfl) fx_no) (fx_cnd (fun _ _ _ _ _ _ _ _ => rfl) fx_no))) (fx_cnd (fx_cnd (fun _ _ _ _ _ _ _ _ => rfl) fx_no) (fx_cnd (fx_cnd (fun _ _ _ _ _ _ _ _ => rfl) fx_no) (fx_cnd (fun _ _ _ _ _ _ _ _ => rfl) fx_no)))
theorem fk_218_7 (X : ez_X) (pc : Nat) : fx_ok X (ft_218_7 X pc) (ez_t218_7 pc) := by
  delta ft_218_7 ez_t218_7
  exact fx_cnd (fx_cnd (fx_cnd (fun _ _ _ _ _ _ _ _ => rfl) fx_no) (fx_cnd (fx_cnd (fun _ _ _ _ _ _ _ _ => rfl) fx_no) (fx_cnd (fun _ _ _ _ _ _ _ _ => rfl) fx_no))) (fx_cnd (fx_cnd (fx_cnd (fun _ _ _ _ _ _ _ _ => rfl) fx_no) (fx_cnd (fun _ _ _ _ _ _ _ _ => rfl) fx_no)) (fx_cnd (fx_cnd (fun _ _ _ _ _ _ _ _ => rfl) fx_no) (fx_cnd (fun _ _ _ _ _ _ _ _ => rfl) fx_no)))
theorem fk_218_8 (X : ez_X) (pc : Nat) : fx_ok X (ft_218_8 X pc) (ez_t218_8 pc) := by
  delta ft_218_8 ez_t218_8
  exact fx_cnd (fk_218_6 X pc) (fk_218_7 X pc)
theorem fk_218_9 (X : ez_X) (pc : Nat) : fx_ok X (ft_218_9 X pc) (ez_t218_9 pc) := by
  delta ft_218_9 ez_t218_9
  exact fx_cnd (fk_218_5 X pc) (fk_218_8 X pc)
theorem fk_218 (X : ez_X) (pc : Nat) : fx_ok X (ft_218 X pc) (ez_t218 pc) := by
  delta ft_218 ez_t218
  exact fx_cnd (fk_218_4 X pc) (fk_218_9 X pc)
theorem fk_219_0 (X : ez_X) (pc : Nat) : fx_ok X (ft_219_0 X pc) (ez_t219_0 pc) := by
  delta ft_219_0 ez_t219_0
  exact fx_cnd (fx_cnd (fx_cnd (fun _ _ _ _ _ _ _ _ => rfl) fx_no) (fx_cnd (fx_cnd (fun _ _ _ _ _ _ _ _ => rfl) fx_no) (fx_cnd (fun _ _ _ _ _ _ _ _ => rfl) fx_no))) (fx_cnd (fx_cnd (fun _ _ _ _ _ _ _ _ => rfl) fx_no) (fx_cnd (fx_cnd (fun _ _ _ _ _ _ _ _ => rfl) fx_no) (fx_cnd (fun _ _ _ _ _ _ _ _ => rfl) fx_no)))
theorem fk_219_1 (X : ez_X) (pc : Nat) : fx_ok X (ft_219_1 X pc) (ez_t219_1 pc) := by
  delta ft_219_1 ez_t219_1
  exact fx_cnd (fx_cnd (fx_cnd (fun _ _ _ _ _ _ _ _ => rfl) fx_no) (fx_cnd (fx_cnd (fun _ _ _ _ _ _ _ _ => rfl) fx_no) (fx_cnd (fun _ _ _ _ _ _ _ _ => rfl) fx_no))) (fx_cnd (fx_cnd (fx_cnd (fun _ _ _ _ _ _ _ _ => rfl) fx_no) (fx_cnd (fun _ _ _ _ _ _ _ _ => rfl) fx_no)) (fx_cnd (fx_cnd (fun _ _ _ _ _ _ _ _ => rfl) fx_no) (fx_cnd (fun _ _ _ _ _ _ _ _ => rfl) fx_no)))
theorem fk_219_2 (X : ez_X) (pc : Nat) : fx_ok X (ft_219_2 X pc) (ez_t219_2 pc) := by
  delta ft_219_2 ez_t219_2
  exact fx_cnd (fk_219_0 X pc) (fk_219_1 X pc)
theorem fk_219_3 (X : ez_X) (pc : Nat) : fx_ok X (ft_219_3 X pc) (ez_t219_3 pc) := by
  delta ft_219_3 ez_t219_3
  exact fx_cnd (fx_cnd (fx_cnd (fun _ _ _ _ _ _ _ _ => rfl) fx_no) (fx_cnd (fx_cnd (fun _ _ _ _ _ _ _ _ => rfl) fx_no) (fx_cnd (fun _ _ _ _ _ _ _ _ => rfl) fx_no))) (fx_cnd (fx_cnd (fun _ _ _ _ _ _ _ _ => rfl) fx_no) (fx_cnd (fx_cnd (fun _ _ _ _ _ _ _ _ => rfl) fx_no) (fx_cnd (fun _ _ _ _ _ _ _ _ => rfl) fx_no)))
theorem fk_219_4 (X : ez_X) (pc : Nat) : fx_ok X (ft_219_4 X pc) (ez_t219_4 pc) := by
  delta ft_219_4 ez_t219_4
  exact fx_cnd (fx_cnd (fx_cnd (fun _ _ _ _ _ _ _ _ => rfl) fx_no) (fx_cnd (fx_cnd (fun _ _ _ _ _ _ _ _ => rfl) fx_no) (fx_cnd (fun _ _ _ _ _ _ _ _ => rfl) fx_no))) (fx_cnd (fx_cnd (fx_cnd (fun _ _ _ _ _ _ _ _ => rfl) fx_no) (fx_cnd (fun _ _ _ _ _ _ _ _ => rfl) fx_no)) (fx_cnd (fx_cnd (fun _ _ _ _ _ _ _ _ => rfl) fx_no) (fx_cnd (fun _ _ _ _ _ _ _ _ => rfl) fx_no)))
theorem fk_219_5 (X : ez_X) (pc : Nat) : fx_ok X (ft_219_5 X pc) (ez_t219_5 pc) := by
  delta ft_219_5 ez_t219_5
  exact fx_cnd (fk_219_3 X pc) (fk_219_4 X pc)
theorem fk_219_6 (X : ez_X) (pc : Nat) : fx_ok X (ft_219_6 X pc) (ez_t219_6 pc) := by
  delta ft_219_6 ez_t219_6
  exact fx_cnd (fk_219_2 X pc) (fk_219_5 X pc)
theorem fk_219_7 (X : ez_X) (pc : Nat) : fx_ok X (ft_219_7 X pc) (ez_t219_7 pc) := by
  delta ft_219_7 ez_t219_7
  exact fx_cnd (fx_cnd (fx_cnd (fun _ _ _ _ _ _ _ _ => rfl) fx_no) (fx_cnd (fx_cnd (fun _ _ _ _ _ _ _ _ => rfl) fx_no) (fx_cnd (fun _ _ _ _ _ _ _ _ => rfl) fx_no))) (fx_cnd (fx_cnd (fun _ _ _ _ _ _ _ _ => rfl) fx_no) (fx_cnd (fx_cnd (fun _ _ _ _ _ _ _ _ => rfl) fx_no) (fx_cnd (fun _ _ _ _ _ _ _ _ => rfl) fx_no)))
theorem fk_219_8 (X : ez_X) (pc : Nat) : fx_ok X (ft_219_8 X pc) (ez_t219_8 pc) := by
  delta ft_219_8 ez_t219_8
  exact fx_cnd (fx_cnd (fx_cnd (fun _ _ _ _ _ _ _ _ => rfl) fx_no) (fx_cnd (fx_cnd (fun _ _ _ _ _ _ _ _ => rfl) fx_no) (fx_cnd (fun _ _ _ _ _ _ _ _ => rfl) fx_no))) (fx_cnd (fx_cnd (fx_cnd (fun _ _ _ _ _ _ _ _ => rfl) fx_no) (fx_cnd (fun _ _ _ _ _ _ _ _ => rfl) fx_no)) (fx_cnd (fx_cnd (fun _ _ _ _ _ _ _ _ => rfl) fx_no) (fx_cnd (fun _ _ _ _ _ _ _ _ => rfl) fx_no)))
theorem fk_219_9 (X : ez_X) (pc : Nat) : fx_ok X (ft_219_9 X pc) (ez_t219_9 pc) := by
  delta ft_219_9 ez_t219_9
  exact fx_cnd (fk_219_7 X pc) (fk_219_8 X pc)
theorem fk_219_10 (X : ez_X) (pc : Nat) : fx_ok X (ft_219_10 X pc) (ez_t219_10 pc) := by
  delta ft_219_10 ez_t219_10
  exact fx_cnd (fx_cnd (fx_cnd (fun _ _ _ _ _ _ _ _ => rfl) fx_no) (fx_cnd (fx_cnd (fun _ _ _ _ _ _ _ _ => rfl) fx_no) (fx_cnd (fun _ _ _ _ _ _ _ _ => rfl) fx_no))) (fx_cnd (fx_cnd (fun _ _ _ _ _ _ _ _ => rfl) fx_no) (fx_cnd (fx_cnd (fun _ _ _ _ _ _ _ _ => rfl) fx_no) (fx_cnd (fun _ _ _ _ _ _ _ _ => rfl) fx_no)))
theorem fk_219_11 (X : ez_X) (pc : Nat) : fx_ok X (ft_219_11 X pc) (ez_t219_11 pc) := by
  delta ft_219_11 ez_t219_11
  exact fx_cnd (fx_cnd (fx_cnd (fun _ _ _ _ _ _ _ _ => rfl) fx_no) (fx_cnd (fx_cnd (fun _ _ _ _ _ _ _ _ => rfl) fx_no) (fx_cnd (fun _ _ _ _ _ _ _ _ => rfl) fx_no))) (fx_cnd (fx_cnd (fx_cnd (fun _ _ _ _ _ _ _ _ => rfl) fx_no) (fx_cnd (fun _ _ _ _ _ _ _ _ => rfl) fx_no)) (fx_cnd (fx_cnd (fun _ _ _ _ _ _ _ _ => rfl) fx_no) (fx_cnd (fun _ _ _ _ _ _ _ _ => rfl) fx_no)))
theorem fk_219_12 (X : ez_X) (pc : Nat) : fx_ok X (ft_219_12 X pc) (ez_t219_12 pc) := by
  delta ft_219_12 ez_t219_12
  exact fx_cnd (fk_219_10 X pc) (fk_219_11 X pc)
theorem fk_219_13 (X : ez_X) (pc : Nat) : fx_ok X (ft_219_13 X pc) (ez_t219_13 pc) := by
  delta ft_219_13 ez_t219_13
  exact fx_cnd (fk_219_9 X pc) (fk_219_12 X pc)
theorem fk_219 (X : ez_X) (pc : Nat) : fx_ok X (ft_219 X pc) (ez_t219 pc) := by
  delta ft_219 ez_t219
  exact fx_cnd (fk_219_6 X pc) (fk_219_13 X pc)
theorem fk_220_0 (X : ez_X) (pc : Nat) : fx_ok X (ft_220_0 X pc) (ez_t220_0 pc) := by
  delta ft_220_0 ez_t220_0
  exact fx_cnd (fx_cnd (fx_cnd (fun _ _ _ _ _ _ _ _ => rfl) fx_no) (fx_cnd (fx_cnd (fun _ _ _ _ _ _ _ _ => rfl) fx_no) (fx_cnd (fun _ _ _ _ _ _ _ _ => rfl) fx_no))) (fx_cnd (fx_cnd (fun _ _ _ _ _ _ _ _ => rfl) fx_no) (fx_cnd (fx_cnd (fun _ _ _ _ _ _ _ _ => rfl) fx_no) (fx_cnd (fun _ _ _ _ _ _ _ _ => rfl) fx_no)))
theorem fk_220_1 (X : ez_X) (pc : Nat) : fx_ok X (ft_220_1 X pc) (ez_t220_1 pc) := by
  delta ft_220_1 ez_t220_1
  exact fx_cnd (fx_cnd (fx_cnd (fun _ _ _ _ _ _ _ _ => rfl) fx_no) (fx_cnd (fx_cnd (fun _ _ _ _ _ _ _ _ => rfl) fx_no) (fx_cnd (fun _ _ _ _ _ _ _ _ => rfl) fx_no))) (fx_cnd (fx_cnd (fx_cnd (fun _ _ _ _ _ _ _ _ => rfl) fx_no) (fx_cnd (fun _ _ _ _ _ _ _ _ => rfl) fx_no)) (fx_cnd (fx_cnd (fun _ _ _ _ _ _ _ _ => rfl) fx_no) (fx_cnd (fun _ _ _ _ _ _ _ _ => rfl) fx_no)))
theorem fk_220_2 (X : ez_X) (pc : Nat) : fx_ok X (ft_220_2 X pc) (ez_t220_2 pc) := by
  delta ft_220_2 ez_t220_2
  exact fx_cnd (fk_220_0 X pc) (fk_220_1 X pc)
theorem fk_220_3 (X : ez_X) (pc : Nat) : fx_ok X (ft_220_3 X pc) (ez_t220_3 pc) := by
  delta ft_220_3 ez_t220_3
  exact fx_cnd (fx_cnd (fx_cnd (fun _ _ _ _ _ _ _ _ => rfl) fx_no) (fx_cnd (fx_cnd (fun _ _ _ _ _ _ _ _ => rfl) fx_no) (fx_cnd (fun _ _ _ _ _ _ _ _ => rfl) fx_no))) (fx_cnd (fx_cnd (fun _ _ _ _ _ _ _ _ => rfl) fx_no) (fx_cnd (fx_cnd (fun _ _ _ _ _ _ _ _ => rfl) fx_no) (fx_cnd (fun _ _ _ _ _ _ _ _ => rfl) fx_no)))
theorem fk_220_4 (X : ez_X) (pc : Nat) : fx_ok X (ft_220_4 X pc) (ez_t220_4 pc) := by
  delta ft_220_4 ez_t220_4
  exact fx_cnd (fx_cnd (fx_cnd (fun _ _ _ _ _ _ _ _ => rfl) fx_no) (fx_cnd (fx_cnd (fun _ _ _ _ _ _ _ _ => rfl) fx_no) (fx_cnd (fun _ _ _ _ _ _ _ _ => rfl) fx_no))) (fx_cnd (fx_cnd (fx_cnd (fun _ _ _ _ _ _ _ _ => rfl) fx_no) (fx_cnd (fun _ _ _ _ _ _ _ _ => rfl) fx_no)) (fx_cnd (fx_cnd (fun _ _ _ _ _ _ _ _ => rfl) fx_no) (fx_cnd (fun _ _ _ _ _ _ _ _ => rfl) fx_no)))
theorem fk_220_5 (X : ez_X) (pc : Nat) : fx_ok X (ft_220_5 X pc) (ez_t220_5 pc) := by
  delta ft_220_5 ez_t220_5
  exact fx_cnd (fk_220_3 X pc) (fk_220_4 X pc)
theorem fk_220_6 (X : ez_X) (pc : Nat) : fx_ok X (ft_220_6 X pc) (ez_t220_6 pc) := by
  delta ft_220_6 ez_t220_6
  exact fx_cnd (fk_220_2 X pc) (fk_220_5 X pc)
theorem fk_220_7 (X : ez_X) (pc : Nat) : fx_ok X (ft_220_7 X pc) (ez_t220_7 pc) := by
  delta ft_220_7 ez_t220_7
  exact fx_cnd (fx_cnd (fx_cnd (fun _ _ _ _ _ _ _ _ => rfl) fx_no) (fx_cnd (fx_cnd (fun _ _ _ _ _ _ _ _ => rfl) fx_no) (fx_cnd (fun _ _ _ _ _ _ _ _ => rfl) fx_no))) (fx_cnd (fx_cnd (fun _ _ _ _ _ _ _ _ => rfl) fx_no) (fx_cnd (fx_cnd (fun _ _ _ _ _ _ _ _ => rfl) fx_no) (fx_cnd (fun _ _ _ _ _ _ _ _ => rfl) fx_no)))
theorem fk_220_8 (X : ez_X) (pc : Nat) : fx_ok X (ft_220_8 X pc) (ez_t220_8 pc) := by
  delta ft_220_8 ez_t220_8
  exact fx_cnd (fx_cnd (fx_cnd (fun _ _ _ _ _ _ _ _ => rfl) fx_no) (fx_cnd (fx_cnd (fun _ _ _ _ _ _ _ _ => rfl) fx_no) (fx_cnd (fun _ _ _ _ _ _ _ _ => rfl) fx_no))) (fx_cnd (fx_cnd (fx_cnd (fun _ _ _ _ _ _ _ _ => rfl) fx_no) (fx_cnd (fun _ _ _ _ _ _ _ _ => rfl) fx_no)) (fx_cnd (fx_cnd (fun _ _ _ _ _ _ _ _ => rfl) fx_no) (fx_cnd (fun _ _ _ _ _ _ _ _ => rfl) fx_no)))
theorem fk_220_9 (X : ez_X) (pc : Nat) : fx_ok X (ft_220_9 X pc) (ez_t220_9 pc) := by
  delta ft_220_9 ez_t220_9
  exact fx_cnd (fk_220_7 X pc) (fk_220_8 X pc)
theorem fk_220_10 (X : ez_X) (pc : Nat) : fx_ok X (ft_220_10 X pc) (ez_t220_10 pc) := by
  delta ft_220_10 ez_t220_10
  exact fx_cnd (fx_cnd (fx_cnd (fun _ _ _ _ _ _ _ _ => rfl) fx_no) (fx_cnd (fx_cnd (fun _ _ _ _ _ _ _ _ => rfl) fx_no) (fx_cnd (fun _ _ _ _ _ _ _ _ => rfl) fx_no))) (fx_cnd (fx_cnd (fx_cnd (fun _ _ _ _ _ _ _ _ => rfl) fx_no) (fx_cnd (fun _ _ _ _ _ _ _ _ => rfl) fx_no)) (fx_cnd (fx_cnd (fun _ _ _ _ _ _ _ _ => rfl) fx_no) (fx_cnd (fun _ _ _ _ _ _ _ _ => rfl) fx_no)))
theorem fk_220_11 (X : ez_X) (pc : Nat) : fx_ok X (ft_220_11 X pc) (ez_t220_11 pc) := by
  delta ft_220_11 ez_t220_11
  exact fx_cnd (fx_cnd (fx_cnd (fun _ _ _ _ _ _ _ _ => rfl) fx_no) (fx_cnd (fx_cnd (fun _ _ _ _ _ _ _ _ => rfl) fx_no) (fx_cnd (fun _ _ _ _ _ _ _ _ => rfl) fx_no))) (fx_cnd (fx_cnd (fx_cnd (fun _ _ _ _ _ _ _ _ => rfl) fx_no) (fx_cnd (fun _ _ _ _ _ _ _ _ => rfl) fx_no)) (fx_cnd (fx_cnd (fun _ _ _ _ _ _ _ _ => rfl) fx_no) (fx_cnd (fun _ _ _ _ _ _ _ _ => rfl) fx_no)))
theorem fk_220_12 (X : ez_X) (pc : Nat) : fx_ok X (ft_220_12 X pc) (ez_t220_12 pc) := by
  delta ft_220_12 ez_t220_12
  exact fx_cnd (fk_220_10 X pc) (fk_220_11 X pc)
theorem fk_220_13 (X : ez_X) (pc : Nat) : fx_ok X (ft_220_13 X pc) (ez_t220_13 pc) := by
  delta ft_220_13 ez_t220_13
  exact fx_cnd (fk_220_9 X pc) (fk_220_12 X pc)
theorem fk_220 (X : ez_X) (pc : Nat) : fx_ok X (ft_220 X pc) (ez_t220 pc) := by
  delta ft_220 ez_t220
  exact fx_cnd (fk_220_6 X pc) (fk_220_13 X pc)
theorem fk_221_0 (X : ez_X) (pc : Nat) : fx_ok X (ft_221_0 X pc) (ez_t221_0 pc) := by
  delta ft_221_0 ez_t221_0
  exact fx_cnd (fx_cnd (fx_cnd (fx_cnd (fun _ _ _ _ _ _ _ _ => rfl) fx_no) (fx_cnd (fun _ _ _ _ _ _ _ _ => rfl) fx_no)) (fx_cnd (fx_cnd (fun _ _ _ _ _ _ _ _ => rfl) fx_no) (fx_cnd (fun _ _ _ _ _ _ _ _ => rfl) fx_no))) (fx_cnd (fx_cnd (fx_cnd (fun _ _ _ _ _ _ _ _ => rfl) fx_no) (fx_cnd (fun _ _ _ _ _ _ _ _ => rfl) fx_no)) (fx_cnd (fx_cnd (fun _ _ _ _ _ _ _ _ => rfl) fx_no) (fx_cnd (fx_cnd (fun _ _ _ _ _ _ _ _ => rfl) fx_no) (fx_cnd (fun _ _ _ _ _ _ _ _ => rfl) fx_no))))
theorem fk_221_1 (X : ez_X) (pc : Nat) : fx_ok X (ft_221_1 X pc) (ez_t221_1 pc) := by
  delta ft_221_1 ez_t221_1
  exact fx_cnd (fx_cnd (fx_cnd (fx_cnd (fun _ _ _ _ _ _ _ _ => rfl) fx_no) (fx_cnd (fun _ _ _ _ _ _ _ _ => rfl) fx_no)) (fx_cnd (fx_cnd (fun _ _ _ _ _ _ _ _ => rfl) fx_no) (fx_cnd (fx_cnd (fun _ _ _ _ _ _ _ _ => rfl) fx_no) (fx_cnd (fun _ _ _ _ _ _ _ _ => rfl) fx_no)))) (fx_cnd (fx_cnd (fx_cnd (fun _ _ _ _ _ _ _ _ => rfl) fx_no) (fx_cnd (fun _ _ _ _ _ _ _ _ => rfl) fx_no)) (fx_cnd (fx_cnd (fun _ _ _ _ _ _ _ _ => rfl) fx_no) (fx_cnd (fx_cnd (fun _ _ _ _ _ _ _ _ => rfl) fx_no) (fx_cnd (fun _ _ _ _ _ _ _ _ => rfl) fx_no))))
theorem fk_221 (X : ez_X) (pc : Nat) : fx_ok X (ft_221 X pc) (ez_t221 pc) := by
  delta ft_221 ez_t221
  exact fx_cnd (fk_221_0 X pc) (fk_221_1 X pc)
theorem fk_222_0 (X : ez_X) (pc : Nat) : fx_ok X (ft_222_0 X pc) (ez_t222_0 pc) := by
  delta ft_222_0 ez_t222_0
  exact fx_cnd (fx_cnd (fx_cnd (fx_cnd (fun _ _ _ _ _ _ _ _ => rfl) fx_no) (fx_cnd (fun _ _ _ _ _ _ _ _ => rfl) fx_no)) (fx_cnd (fx_cnd (fun _ _ _ _ _ _ _ _ => rfl) fx_no) (fx_cnd (fun _ _ _ _ _ _ _ _ => rfl) fx_no))) (fx_cnd (fx_cnd (fx_cnd (fun _ _ _ _ _ _ _ _ => rfl) fx_no) (fx_cnd (fun _ _ _ _ _ _ _ _ => rfl) fx_no)) (fx_cnd (fx_cnd (fun _ _ _ _ _ _ _ _ => rfl) fx_no) (fx_cnd (fun _ _ _ _ _ _ _ _ => rfl) fx_no)))
theorem fk_222_1 (X : ez_X) (pc : Nat) : fx_ok X (ft_222_1 X pc) (ez_t222_1 pc) := by
  delta ft_222_1 ez_t222_1
  exact fx_cnd (fx_cnd (fx_cnd (fx_cnd (fun _ _ _ _ _ _ _ _ => rfl) fx_no) (fx_cnd (fun _ _ _ _ _ _ _ _ => rfl) fx_no)) (fx_cnd (fx_cnd (fun _ _ _ _ _ _ _ _ => rfl) fx_no) (fx_cnd (fun _ _ _ _ _ _ _ _ => rfl) fx_no))) (fx_cnd (fx_cnd (fx_cnd (fun _ _ _ _ _ _ _ _ => rfl) fx_no) (fx_cnd (fun _ _ _ _ _ _ _ _ => rfl) fx_no)) (fx_cnd (fx_cnd (fun _ _ _ _ _ _ _ _ => rfl) fx_no) (fx_cnd (fun _ _ _ _ _ _ _ _ => rfl) fx_no)))
theorem fk_222_2 (X : ez_X) (pc : Nat) : fx_ok X (ft_222_2 X pc) (ez_t222_2 pc) := by
  delta ft_222_2 ez_t222_2
  exact fx_cnd (fk_222_0 X pc) (fk_222_1 X pc)
theorem fk_222_3 (X : ez_X) (pc : Nat) : fx_ok X (ft_222_3 X pc) (ez_t222_3 pc) := by
  delta ft_222_3 ez_t222_3
  exact fx_cnd (fx_cnd (fx_cnd (fx_cnd (fun _ _ _ _ _ _ _ _ => rfl) fx_no) (fx_cnd (fun _ _ _ _ _ _ _ _ => rfl) fx_no)) (fx_cnd (fx_cnd (fun _ _ _ _ _ _ _ _ => rfl) fx_no) (fx_cnd (fun _ _ _ _ _ _ _ _ => rfl) fx_no))) (fx_cnd (fx_cnd (fx_cnd (fun _ _ _ _ _ _ _ _ => rfl) fx_no) (fx_cnd (fun _ _ _ _ _ _ _ _ => rfl) fx_no)) (fx_cnd (fx_cnd (fun _ _ _ _ _ _ _ _ => rfl) fx_no) (fx_cnd (fun _ _ _ _ _ _ _ _ => rfl) fx_no)))
theorem fk_222_4 (X : ez_X) (pc : Nat) : fx_ok X (ft_222_4 X pc) (ez_t222_4 pc) := by
  delta ft_222_4 ez_t222_4
  exact fx_cnd (fx_cnd (fx_cnd (fx_cnd (fun _ _ _ _ _ _ _ _ => rfl) fx_no) (fx_cnd (fun _ _ _ _ _ _ _ _ => rfl) fx_no)) (fx_cnd (fx_cnd (fun _ _ _ _ _ _ _ _ => rfl) fx_no) (fx_cnd (fun _ _ _ _ _ _ _ _ => rfl) fx_no))) (fx_cnd (fx_cnd (fx_cnd (fun _ _ _ _ _ _ _ _ => rfl) fx_no) (fx_cnd (fun _ _ _ _ _ _ _ _ => rfl) fx_no)) (fx_cnd (fx_cnd (fun _ _ _ _ _ _ _ _ => rfl) fx_no) (fx_cnd (fun _ _ _ _ _ _ _ _ => rfl) fx_no)))
theorem fk_222_5 (X : ez_X) (pc : Nat) : fx_ok X (ft_222_5 X pc) (ez_t222_5 pc) := by
  delta ft_222_5 ez_t222_5
  exact fx_cnd (fk_222_3 X pc) (fk_222_4 X pc)
theorem fk_222 (X : ez_X) (pc : Nat) : fx_ok X (ft_222 X pc) (ez_t222 pc) := by
  delta ft_222 ez_t222
  exact fx_cnd (fk_222_2 X pc) (fk_222_5 X pc)
theorem fk_223_0 (X : ez_X) (pc : Nat) : fx_ok X (ft_223_0 X pc) (ez_t223_0 pc) := by
  delta ft_223_0 ez_t223_0
  exact fx_cnd (fx_cnd (fx_cnd (fun _ _ _ _ _ _ _ _ => rfl) fx_no) (fx_cnd (fx_cnd (fun _ _ _ _ _ _ _ _ => rfl) fx_no) (fx_cnd (fun _ _ _ _ _ _ _ _ => rfl) fx_no))) (fx_cnd (fx_cnd (fx_cnd (fun _ _ _ _ _ _ _ _ => rfl) fx_no) (fx_cnd (fun _ _ _ _ _ _ _ _ => rfl) fx_no)) (fx_cnd (fx_cnd (fun _ _ _ _ _ _ _ _ => rfl) fx_no) (fx_cnd (fun _ _ _ _ _ _ _ _ => rfl) fx_no)))
theorem fk_223_1 (X : ez_X) (pc : Nat) : fx_ok X (ft_223_1 X pc) (ez_t223_1 pc) := by
  delta ft_223_1 ez_t223_1
  exact fx_cnd (fx_cnd (fx_cnd (fun _ _ _ _ _ _ _ _ => rfl) fx_no) (fx_cnd (fx_cnd (fun _ _ _ _ _ _ _ _ => rfl) fx_no) (fx_cnd (fun _ _ _ _ _ _ _ _ => rfl) fx_no))) (fx_cnd (fx_cnd (fx_cnd (fun _ _ _ _ _ _ _ _ => rfl) fx_no) (fx_cnd (fun _ _ _ _ _ _ _ _ => rfl) fx_no)) (fx_cnd (fx_cnd (fun _ _ _ _ _ _ _ _ => rfl) fx_no) (fx_cnd (fun _ _ _ _ _ _ _ _ => rfl) fx_no)))
theorem fk_223 (X : ez_X) (pc : Nat) : fx_ok X (ft_223 X pc) (ez_t223 pc) := by
  delta ft_223 ez_t223
  exact fx_cnd (fk_223_0 X pc) (fk_223_1 X pc)
theorem fk_224_0 (X : ez_X) (pc : Nat) : fx_ok X (ft_224_0 X pc) (ez_t224_0 pc) := by
  delta ft_224_0 ez_t224_0
  exact fx_cnd (fx_cnd (fx_cnd (fx_cnd (fun _ _ _ _ _ _ _ _ => rfl) fx_no) (fx_cnd (fun _ _ _ _ _ _ _ _ => rfl) fx_no)) (fx_cnd (fx_cnd (fun _ _ _ _ _ _ _ _ => rfl) fx_no) (fx_cnd (fun _ _ _ _ _ _ _ _ => rfl) fx_no))) (fx_cnd (fx_cnd (fx_cnd (fun _ _ _ _ _ _ _ _ => rfl) fx_no) (fx_cnd (fun _ _ _ _ _ _ _ _ => rfl) fx_no)) (fx_cnd (fx_cnd (fun _ _ _ _ _ _ _ _ => rfl) fx_no) (fx_cnd (fx_cnd (fun _ _ _ _ _ _ _ _ => rfl) fx_no) (fx_cnd (fun _ _ _ _ _ _ _ _ => rfl) fx_no))))
theorem fk_224_1 (X : ez_X) (pc : Nat) : fx_ok X (ft_224_1 X pc) (ez_t224_1 pc) := by
  delta ft_224_1 ez_t224_1
  exact fx_cnd (fx_cnd (fx_cnd (fx_cnd (fun _ _ _ _ _ _ _ _ => rfl) fx_no) (fx_cnd (fun _ _ _ _ _ _ _ _ => rfl) fx_no)) (fx_cnd (fx_cnd (fun _ _ _ _ _ _ _ _ => rfl) fx_no) (fx_cnd (fx_cnd (fun _ _ _ _ _ _ _ _ => rfl) fx_no) (fx_cnd (fun _ _ _ _ _ _ _ _ => rfl) fx_no)))) (fx_cnd (fx_cnd (fx_cnd (fun _ _ _ _ _ _ _ _ => rfl) fx_no) (fx_cnd (fun _ _ _ _ _ _ _ _ => rfl) fx_no)) (fx_cnd (fx_cnd (fun _ _ _ _ _ _ _ _ => rfl) fx_no) (fx_cnd (fx_cnd (fun _ _ _ _ _ _ _ _ => rfl) fx_no) (fx_cnd (fun _ _ _ _ _ _ _ _ => rfl) fx_no))))
theorem fk_224_2 (X : ez_X) (pc : Nat) : fx_ok X (ft_224_2 X pc) (ez_t224_2 pc) := by
  delta ft_224_2 ez_t224_2
  exact fx_cnd (fk_224_0 X pc) (fk_224_1 X pc)
theorem fk_224_3 (X : ez_X) (pc : Nat) : fx_ok X (ft_224_3 X pc) (ez_t224_3 pc) := by
  delta ft_224_3 ez_t224_3
  exact fx_cnd (fx_cnd (fx_cnd (fx_cnd (fun _ _ _ _ _ _ _ _ => rfl) fx_no) (fx_cnd (fun _ _ _ _ _ _ _ _ => rfl) fx_no)) (fx_cnd (fx_cnd (fun _ _ _ _ _ _ _ _ => rfl) fx_no) (fx_cnd (fx_cnd (fun _ _ _ _ _ _ _ _ => rfl) fx_no) (fx_cnd (fun _ _ _ _ _ _ _ _ => rfl) fx_no)))) (fx_cnd (fx_cnd (fx_cnd (fun _ _ _ _ _ _ _ _ => rfl) fx_no) (fx_cnd (fun _ _ _ _ _ _ _ _ => rfl) fx_no)) (fx_cnd (fx_cnd (fun _ _ _ _ _ _ _ _ => rfl) fx_no) (fx_cnd (fx_cnd (fun _ _ _ _ _ _ _ _ => rfl) fx_no) (fx_cnd (fun _ _ _ _ _ _ _ _ => rfl) fx_no))))
theorem fk_224_4 (X : ez_X) (pc : Nat) : fx_ok X (ft_224_4 X pc) (ez_t224_4 pc) := by
  delta ft_224_4 ez_t224_4
  exact fx_cnd (fx_cnd (fx_cnd (fx_cnd (fun _ _ _ _ _ _ _ _ => rfl) fx_no) (fx_cnd (fun _ _ _ _ _ _ _ _ => rfl) fx_no)) (fx_cnd (fx_cnd (fun _ _ _ _ _ _ _ _ => rfl) fx_no) (fx_cnd (fx_cnd (fun _ _ _ _ _ _ _ _ => rfl) fx_no) (fx_cnd (fun _ _ _ _ _ _ _ _ => rfl) fx_no)))) (fx_cnd (fx_cnd (fx_cnd (fun _ _ _ _ _ _ _ _ => rfl) fx_no) (fx_cnd (fun _ _ _ _ _ _ _ _ => rfl) fx_no)) (fx_cnd (fx_cnd (fun _ _ _ _ _ _ _ _ => rfl) fx_no) (fx_cnd (fx_cnd (fun _ _ _ _ _ _ _ _ => rfl) fx_no) (fx_cnd (fun _ _ _ _ _ _ _ _ => rfl) fx_no))))
theorem fk_224_5 (X : ez_X) (pc : Nat) : fx_ok X (ft_224_5 X pc) (ez_t224_5 pc) := by
  delta ft_224_5 ez_t224_5
  exact fx_cnd (fk_224_3 X pc) (fk_224_4 X pc)
theorem fk_224_6 (X : ez_X) (pc : Nat) : fx_ok X (ft_224_6 X pc) (ez_t224_6 pc) := by
  delta ft_224_6 ez_t224_6
  exact fx_cnd (fk_224_2 X pc) (fk_224_5 X pc)
theorem fk_224_7 (X : ez_X) (pc : Nat) : fx_ok X (ft_224_7 X pc) (ez_t224_7 pc) := by
  delta ft_224_7 ez_t224_7
  exact fx_cnd (fx_cnd (fx_cnd (fx_cnd (fun _ _ _ _ _ _ _ _ => rfl) fx_no) (fx_cnd (fun _ _ _ _ _ _ _ _ => rfl) fx_no)) (fx_cnd (fx_cnd (fun _ _ _ _ _ _ _ _ => rfl) fx_no) (fx_cnd (fun _ _ _ _ _ _ _ _ => rfl) fx_no))) (fx_cnd (fx_cnd (fx_cnd (fun _ _ _ _ _ _ _ _ => rfl) fx_no) (fx_cnd (fun _ _ _ _ _ _ _ _ => rfl) fx_no)) (fx_cnd (fx_cnd (fun _ _ _ _ _ _ _ _ => rfl) fx_no) (fx_cnd (fx_cnd (fun _ _ _ _ _ _ _ _ => rfl) fx_no) (fx_cnd (fun _ _ _ _ _ _ _ _ => rfl) fx_no))))
theorem fk_224_8 (X : ez_X) (pc : Nat) : fx_ok X (ft_224_8 X pc) (ez_t224_8 pc) := by
  delta ft_224_8 ez_t224_8
  exact fx_cnd (fx_cnd (fx_cnd (fx_cnd (fun _ _ _ _ _ _ _ _ => rfl) fx_no) (fx_cnd (fun _ _ _ _ _ _ _ _ => rfl) fx_no)) (fx_cnd (fx_cnd (fun _ _ _ _ _ _ _ _ => rfl) fx_no) (fx_cnd (fx_cnd (fun _ _ _ _ _ _ _ _ => rfl) fx_no) (fx_cnd (fun _ _ _ _ _ _ _ _ => rfl) fx_no)))) (fx_cnd (fx_cnd (fx_cnd (fun _ _ _ _ _ _ _ _ => rfl) fx_no) (fx_cnd (fun _ _ _ _ _ _ _ _ => rfl) fx_no)) (fx_cnd (fx_cnd (fun _ _ _ _ _ _ _ _ => rfl) fx_no) (fx_cnd (fx_cnd (fun _ _ _ _ _ _ _ _ => rfl) fx_no) (fx_cnd (fun _ _ _ _ _ _ _ _ => rfl) fx_no))))
theorem fk_224_9 (X : ez_X) (pc : Nat) : fx_ok X (ft_224_9 X pc) (ez_t224_9 pc) := by
  delta ft_224_9 ez_t224_9
  exact fx_cnd (fk_224_7 X pc) (fk_224_8 X pc)
theorem fk_224_10 (X : ez_X) (pc : Nat) : fx_ok X (ft_224_10 X pc) (ez_t224_10 pc) := by
  delta ft_224_10 ez_t224_10
  exact fx_cnd (fx_cnd (fx_cnd (fx_cnd (fun _ _ _ _ _ _ _ _ => rfl) fx_no) (fx_cnd (fun _ _ _ _ _ _ _ _ => rfl) fx_no)) (fx_cnd (fx_cnd (fun _ _ _ _ _ _ _ _ => rfl) fx_no) (fx_cnd (fx_cnd (fun _ _ _ _ _ _ _ _ => rfl) fx_no) (fx_cnd (fun _ _ _ _ _ _ _ _ => rfl) fx_no)))) (fx_cnd (fx_cnd (fx_cnd (fun _ _ _ _ _ _ _ _ => rfl) fx_no) (fx_cnd (fun _ _ _ _ _ _ _ _ => rfl) fx_no)) (fx_cnd (fx_cnd (fun _ _ _ _ _ _ _ _ => rfl) fx_no) (fx_cnd (fx_cnd (fun _ _ _ _ _ _ _ _ => rfl) fx_no) (fx_cnd (fun _ _ _ _ _ _ _ _ => rfl) fx_no))))
theorem fk_224_11 (X : ez_X) (pc : Nat) : fx_ok X (ft_224_11 X pc) (ez_t224_11 pc) := by
  delta ft_224_11 ez_t224_11
  exact fx_cnd (fx_cnd (fx_cnd (fx_cnd (fun _ _ _ _ _ _ _ _ => rfl) fx_no) (fx_cnd (fun _ _ _ _ _ _ _ _ => rfl) fx_no)) (fx_cnd (fx_cnd (fun _ _ _ _ _ _ _ _ => rfl) fx_no) (fx_cnd (fx_cnd (fun _ _ _ _ _ _ _ _ => rfl) fx_no) (fx_cnd (fun _ _ _ _ _ _ _ _ => rfl) fx_no)))) (fx_cnd (fx_cnd (fx_cnd (fun _ _ _ _ _ _ _ _ => rfl) fx_no) (fx_cnd (fun _ _ _ _ _ _ _ _ => rfl) fx_no)) (fx_cnd (fx_cnd (fun _ _ _ _ _ _ _ _ => rfl) fx_no) (fx_cnd (fx_cnd (fun _ _ _ _ _ _ _ _ => rfl) fx_no) (fx_cnd (fun _ _ _ _ _ _ _ _ => rfl) fx_no))))
theorem fk_224_12 (X : ez_X) (pc : Nat) : fx_ok X (ft_224_12 X pc) (ez_t224_12 pc) := by
  delta ft_224_12 ez_t224_12
  exact fx_cnd (fk_224_10 X pc) (fk_224_11 X pc)
theorem fk_224_13 (X : ez_X) (pc : Nat) : fx_ok X (ft_224_13 X pc) (ez_t224_13 pc) := by
  delta ft_224_13 ez_t224_13
  exact fx_cnd (fk_224_9 X pc) (fk_224_12 X pc)
theorem fk_224 (X : ez_X) (pc : Nat) : fx_ok X (ft_224 X pc) (ez_t224 pc) := by
  delta ft_224 ez_t224
  exact fx_cnd (fk_224_6 X pc) (fk_224_13 X pc)
theorem fk_225_0 (X : ez_X) (pc : Nat) : fx_ok X (ft_225_0 X pc) (ez_t225_0 pc) := by
  delta ft_225_0 ez_t225_0
  exact fx_cnd (fx_cnd (fx_cnd (fx_cnd (fun _ _ _ _ _ _ _ _ => rfl) fx_no) (fx_cnd (fun _ _ _ _ _ _ _ _ => rfl) fx_no)) (fx_cnd (fx_cnd (fun _ _ _ _ _ _ _ _ => rfl) fx_no) (fx_cnd (fx_cnd (fun _ _ _ _ _ _ _ _ => rfl) fx_no) (fx_cnd (fun _ _ _ _ _ _ _ _ => rfl) fx_no)))) (fx_cnd (fx_cnd (fx_cnd (fun _ _ _ _ _ _ _ _ => rfl) fx_no) (fx_cnd (fun _ _ _ _ _ _ _ _ => rfl) fx_no)) (fx_cnd (fx_cnd (fun _ _ _ _ _ _ _ _ => rfl) fx_no) (fx_cnd (fx_cnd (fun _ _ _ _ _ _ _ _ => rfl) fx_no) (fx_cnd (fun _ _ _ _ _ _ _ _ => rfl) fx_no))))
theorem fk_225_1 (X : ez_X) (pc : Nat) : fx_ok X (ft_225_1 X pc) (ez_t225_1 pc) := by
  delta ft_225_1 ez_t225_1
  exact fx_cnd (fx_cnd (fx_cnd (fx_cnd (fun _ _ _ _ _ _ _ _ => rfl) fx_no) (fx_cnd (fun _ _ _ _ _ _ _ _ => rfl) fx_no)) (fx_cnd (fx_cnd (fun _ _ _ _ _ _ _ _ => rfl) fx_no) (fx_cnd (fx_cnd (fun _ _ _ _ _ _ _ _ => rfl) fx_no) (fx_cnd (fun _ _ _ _ _ _ _ _ => rfl) fx_no)))) (fx_cnd (fx_cnd (fx_cnd (fun _ _ _ _ _ _ _ _ => rfl) fx_no) (fx_cnd (fx_cnd (fun _ _ _ _ _ _ _ _ => rfl) fx_no) (fx_cnd (fun _ _ _ _ _ _ _ _ => rfl) fx_no))) (fx_cnd (fx_cnd (fun _ _ _ _ _ _ _ _ => rfl) fx_no) (fx_cnd (fx_cnd (fun _ _ _ _ _ _ _ _ => rfl) fx_no) (fx_cnd (fun _ _ _ _ _ _ _ _ => rfl) fx_no))))
theorem fk_225_2 (X : ez_X) (pc : Nat) : fx_ok X (ft_225_2 X pc) (ez_t225_2 pc) := by
  delta ft_225_2 ez_t225_2
  exact fx_cnd (fk_225_0 X pc) (fk_225_1 X pc)
theorem fk_225_3 (X : ez_X) (pc : Nat) : fx_ok X (ft_225_3 X pc) (ez_t225_3 pc) := by
  delta ft_225_3 ez_t225_3
  exact fx_cnd (fx_cnd (fx_cnd (fx_cnd (fun _ _ _ _ _ _ _ _ => rfl) fx_no) (fx_cnd (fun _ _ _ _ _ _ _ _ => rfl) fx_no)) (fx_cnd (fx_cnd (fun _ _ _ _ _ _ _ _ => rfl) fx_no) (fx_cnd (fx_cnd (fun _ _ _ _ _ _ _ _ => rfl) fx_no) (fx_cnd (fun _ _ _ _ _ _ _ _ => rfl) fx_no)))) (fx_cnd (fx_cnd (fx_cnd (fun _ _ _ _ _ _ _ _ => rfl) fx_no) (fx_cnd (fx_cnd (fun _ _ _ _ _ _ _ _ => rfl) fx_no) (fx_cnd (fun _ _ _ _ _ _ _ _ => rfl) fx_no))) (fx_cnd (fx_cnd (fun _ _ _ _ _ _ _ _ => rfl) fx_no) (fx_cnd (fx_cnd (fun _ _ _ _ _ _ _ _ => rfl) fx_no) (fx_cnd (fun _ _ _ _ _ _ _ _ => rfl) fx_no))))
theorem fk_225_4 (X : ez_X) (pc : Nat) : fx_ok X (ft_225_4 X pc) (ez_t225_4 pc) := by
  delta ft_225_4 ez_t225_4
  exact fx_cnd (fx_cnd (fx_cnd (fx_cnd (fun _ _ _ _ _ _ _ _ => rfl) fx_no) (fx_cnd (fun _ _ _ _ _ _ _ _ => rfl) fx_no)) (fx_cnd (fx_cnd (fun _ _ _ _ _ _ _ _ => rfl) fx_no) (fx_cnd (fx_cnd (fun _ _ _ _ _ _ _ _ => rfl) fx_no) (fx_cnd (fun _ _ _ _ _ _ _ _ => rfl) fx_no)))) (fx_cnd (fx_cnd (fx_cnd (fun _ _ _ _ _ _ _ _ => rfl) fx_no) (fx_cnd (fx_cnd (fun _ _ _ _ _ _ _ _ => rfl) fx_no) (fx_cnd (fun _ _ _ _ _ _ _ _ => rfl) fx_no))) (fx_cnd (fx_cnd (fun _ _ _ _ _ _ _ _ => rfl) fx_no) (fx_cnd (fx_cnd (fun _ _ _ _ _ _ _ _ => rfl) fx_no) (fx_cnd (fun _ _ _ _ _ _ _ _ => rfl) fx_no))))
theorem fk_225_5 (X : ez_X) (pc : Nat) : fx_ok X (ft_225_5 X pc) (ez_t225_5 pc) := by
  delta ft_225_5 ez_t225_5
  exact fx_cnd (fk_225_3 X pc) (fk_225_4 X pc)
theorem fk_225 (X : ez_X) (pc : Nat) : fx_ok X (ft_225 X pc) (ez_t225 pc) := by
  delta ft_225 ez_t225
  exact fx_cnd (fk_225_2 X pc) (fk_225_5 X pc)
theorem fk_226_0 (X : ez_X) (pc : Nat) : fx_ok X (ft_226_0 X pc) (ez_t226_0 pc) := by
  delta ft_226_0 ez_t226_0
  exact fx_cnd (fx_cnd (fx_cnd (fx_cnd (fun _ _ _ _ _ _ _ _ => rfl) fx_no) (fx_cnd (fun _ _ _ _ _ _ _ _ => rfl) fx_no)) (fx_cnd (fx_cnd (fun _ _ _ _ _ _ _ _ => rfl) fx_no) (fx_cnd (fx_cnd (fun _ _ _ _ _ _ _ _ => rfl) fx_no) (fx_cnd (fun _ _ _ _ _ _ _ _ => rfl) fx_no)))) (fx_cnd (fx_cnd (fx_cnd (fun _ _ _ _ _ _ _ _ => rfl) fx_no) (fx_cnd (fun _ _ _ _ _ _ _ _ => rfl) fx_no)) (fx_cnd (fx_cnd (fun _ _ _ _ _ _ _ _ => rfl) fx_no) (fx_cnd (fx_cnd (fun _ _ _ _ _ _ _ _ => rfl) fx_no) (fx_cnd (fun _ _ _ _ _ _ _ _ => rfl) fx_no))))
theorem fk_226_1 (X : ez_X) (pc : Nat) : fx_ok X (ft_226_1 X pc) (ez_t226_1 pc) := by
  delta ft_226_1 ez_t226_1
  exact fx_cnd (fx_cnd (fx_cnd (fx_cnd (fun _ _ _ _ _ _ _ _ => rfl) fx_no) (fx_cnd (fun _ _ _ _ _ _ _ _ => rfl) fx_no)) (fx_cnd (fx_cnd (fun _ _ _ _ _ _ _ _ => rfl) fx_no) (fx_cnd (fx_cnd (fun _ _ _ _ _ _ _ _ => rfl) fx_no) (fx_cnd (fun _ _ _ _ _ _ _ _ => rfl) fx_no)))) (fx_cnd (fx_cnd (fx_cnd (fun _ _ _ _ _ _ _ _ => rfl) fx_no) (fx_cnd (fx_cnd (fun _ _ _ _ _ _ _ _ => rfl) fx_no) (fx_cnd (fun _ _ _ _ _ _ _ _ => rfl) fx_no))) (fx_cnd (fx_cnd (fun _ _ _ _ _ _ _ _ => rfl) fx_no) (fx_cnd (fx_cnd (fun _ _ _ _ _ _ _ _ => rfl) fx_no) (fx_cnd (fun _ _ _ _ _ _ _ _ => rfl) fx_no))))
theorem fk_226_2 (X : ez_X) (pc : Nat) : fx_ok X (ft_226_2 X pc) (ez_t226_2 pc) := by
  delta ft_226_2 ez_t226_2
  exact fx_cnd (fk_226_0 X pc) (fk_226_1 X pc)
theorem fk_226_3 (X : ez_X) (pc : Nat) : fx_ok X (ft_226_3 X pc) (ez_t226_3 pc) := by
  delta ft_226_3 ez_t226_3
  exact fx_cnd (fx_cnd (fx_cnd (fx_cnd (fun _ _ _ _ _ _ _ _ => rfl) fx_no) (fx_cnd (fun _ _ _ _ _ _ _ _ => rfl) fx_no)) (fx_cnd (fx_cnd (fun _ _ _ _ _ _ _ _ => rfl) fx_no) (fx_cnd (fx_cnd (fun _ _ _ _ _ _ _ _ => rfl) fx_no) (fx_cnd (fun _ _ _ _ _ _ _ _ => rfl) fx_no)))) (fx_cnd (fx_cnd (fx_cnd (fun _ _ _ _ _ _ _ _ => rfl) fx_no) (fx_cnd (fun _ _ _ _ _ _ _ _ => rfl) fx_no)) (fx_cnd (fx_cnd (fun _ _ _ _ _ _ _ _ => rfl) fx_no) (fx_cnd (fx_cnd (fun _ _ _ _ _ _ _ _ => rfl) fx_no) (fx_cnd (fun _ _ _ _ _ _ _ _ => rfl) fx_no))))
theorem fk_226_4 (X : ez_X) (pc : Nat) : fx_ok X (ft_226_4 X pc) (ez_t226_4 pc) := by
  delta ft_226_4 ez_t226_4
  exact fx_cnd (fx_cnd (fx_cnd (fx_cnd (fun _ _ _ _ _ _ _ _ => rfl) fx_no) (fx_cnd (fun _ _ _ _ _ _ _ _ => rfl) fx_no)) (fx_cnd (fx_cnd (fun _ _ _ _ _ _ _ _ => rfl) fx_no) (fx_cnd (fx_cnd (fun _ _ _ _ _ _ _ _ => rfl) fx_no) (fx_cnd (fun _ _ _ _ _ _ _ _ => rfl) fx_no)))) (fx_cnd (fx_cnd (fx_cnd (fun _ _ _ _ _ _ _ _ => rfl) fx_no) (fx_cnd (fx_cnd (fun _ _ _ _ _ _ _ _ => rfl) fx_no) (fx_cnd (fun _ _ _ _ _ _ _ _ => rfl) fx_no))) (fx_cnd (fx_cnd (fun _ _ _ _ _ _ _ _ => rfl) fx_no) (fx_cnd (fx_cnd (fun _ _ _ _ _ _ _ _ => rfl) fx_no) (fx_cnd (fun _ _ _ _ _ _ _ _ => rfl) fx_no))))
theorem fk_226_5 (X : ez_X) (pc : Nat) : fx_ok X (ft_226_5 X pc) (ez_t226_5 pc) := by
  delta ft_226_5 ez_t226_5
  exact fx_cnd (fk_226_3 X pc) (fk_226_4 X pc)
theorem fk_226_6 (X : ez_X) (pc : Nat) : fx_ok X (ft_226_6 X pc) (ez_t226_6 pc) := by
  delta ft_226_6 ez_t226_6
  exact fx_cnd (fk_226_2 X pc) (fk_226_5 X pc)
theorem fk_226_7 (X : ez_X) (pc : Nat) : fx_ok X (ft_226_7 X pc) (ez_t226_7 pc) := by
  delta ft_226_7 ez_t226_7
  exact fx_cnd (fx_cnd (fx_cnd (fx_cnd (fun _ _ _ _ _ _ _ _ => rfl) fx_no) (fx_cnd (fun _ _ _ _ _ _ _ _ => rfl) fx_no)) (fx_cnd (fx_cnd (fun _ _ _ _ _ _ _ _ => rfl) fx_no) (fx_cnd (fx_cnd (fun _ _ _ _ _ _ _ _ => rfl) fx_no) (fx_cnd (fun _ _ _ _ _ _ _ _ => rfl) fx_no)))) (fx_cnd (fx_cnd (fx_cnd (fun _ _ _ _ _ _ _ _ => rfl) fx_no) (fx_cnd (fun _ _ _ _ _ _ _ _ => rfl) fx_no)) (fx_cnd (fx_cnd (fun _ _ _ _ _ _ _ _ => rfl) fx_no) (fx_cnd (fx_cnd (fun _ _ _ _ _ _ _ _ => rfl) fx_no) (fx_cnd (fun _ _ _ _ _ _ _ _ => rfl) fx_no))))
theorem fk_226_8 (X : ez_X) (pc : Nat) : fx_ok X (ft_226_8 X pc) (ez_t226_8 pc) := by
  delta ft_226_8 ez_t226_8
  exact fx_cnd (fx_cnd (fx_cnd (fx_cnd (fun _ _ _ _ _ _ _ _ => rfl) fx_no) (fx_cnd (fun _ _ _ _ _ _ _ _ => rfl) fx_no)) (fx_cnd (fx_cnd (fun _ _ _ _ _ _ _ _ => rfl) fx_no) (fx_cnd (fx_cnd (fun _ _ _ _ _ _ _ _ => rfl) fx_no) (fx_cnd (fun _ _ _ _ _ _ _ _ => rfl) fx_no)))) (fx_cnd (fx_cnd (fx_cnd (fun _ _ _ _ _ _ _ _ => rfl) fx_no) (fx_cnd (fx_cnd (fun _ _ _ _ _ _ _ _ => rfl) fx_no) (fx_cnd (fun _ _ _ _ _ _ _ _ => rfl) fx_no))) (fx_cnd (fx_cnd (fun _ _ _ _ _ _ _ _ => rfl) fx_no) (fx_cnd (fx_cnd (fun _ _ _ _ _ _ _ _ => rfl) fx_no) (fx_cnd (fun _ _ _ _ _ _ _ _ => rfl) fx_no))))
theorem fk_226_9 (X : ez_X) (pc : Nat) : fx_ok X (ft_226_9 X pc) (ez_t226_9 pc) := by
  delta ft_226_9 ez_t226_9
  exact fx_cnd (fk_226_7 X pc) (fk_226_8 X pc)
theorem fk_226_10 (X : ez_X) (pc : Nat) : fx_ok X (ft_226_10 X pc) (ez_t226_10 pc) := by
  delta ft_226_10 ez_t226_10
  exact fx_cnd (fx_cnd (fx_cnd (fx_cnd (fun _ _ _ _ _ _ _ _ => rfl) fx_no) (fx_cnd (fun _ _ _ _ _ _ _ _ => rfl) fx_no)) (fx_cnd (fx_cnd (fun _ _ _ _ _ _ _ _ => rfl) fx_no) (fx_cnd (fx_cnd (fun _ _ _ _ _ _ _ _ => rfl) fx_no) (fx_cnd (fun _ _ _ _ _ _ _ _ => rfl) fx_no)))) (fx_cnd (fx_cnd (fx_cnd (fun _ _ _ _ _ _ _ _ => rfl) fx_no) (fx_cnd (fx_cnd (fun _ _ _ _ _ _ _ _ => rfl) fx_no) (fx_cnd (fun _ _ _ _ _ _ _ _ => rfl) fx_no))) (fx_cnd (fx_cnd (fun _ _ _ _ _ _ _ _ => rfl) fx_no) (fx_cnd (fx_cnd (fun _ _ _ _ _ _ _ _ => rfl) fx_no) (fx_cnd (fun _ _ _ _ _ _ _ _ => rfl) fx_no))))
theorem fk_226_11 (X : ez_X) (pc : Nat) : fx_ok X (ft_226_11 X pc) (ez_t226_11 pc) := by
  delta ft_226_11 ez_t226_11
  exact fx_cnd (fx_cnd (fx_cnd (fx_cnd (fun _ _ _ _ _ _ _ _ => rfl) fx_no) (fx_cnd (fun _ _ _ _ _ _ _ _ => rfl) fx_no)) (fx_cnd (fx_cnd (fun _ _ _ _ _ _ _ _ => rfl) fx_no) (fx_cnd (fx_cnd (fun _ _ _ _ _ _ _ _ => rfl) fx_no) (fx_cnd (fun _ _ _ _ _ _ _ _ => rfl) fx_no)))) (fx_cnd (fx_cnd (fx_cnd (fun _ _ _ _ _ _ _ _ => rfl) fx_no) (fx_cnd (fx_cnd (fun _ _ _ _ _ _ _ _ => rfl) fx_no) (fx_cnd (fun _ _ _ _ _ _ _ _ => rfl) fx_no))) (fx_cnd (fx_cnd (fun _ _ _ _ _ _ _ _ => rfl) fx_no) (fx_cnd (fx_cnd (fun _ _ _ _ _ _ _ _ => rfl) fx_no) (fx_cnd (fun _ _ _ _ _ _ _ _ => rfl) fx_no))))
theorem fk_226_12 (X : ez_X) (pc : Nat) : fx_ok X (ft_226_12 X pc) (ez_t226_12 pc) := by
  delta ft_226_12 ez_t226_12
  exact fx_cnd (fk_226_10 X pc) (fk_226_11 X pc)
theorem fk_226_13 (X : ez_X) (pc : Nat) : fx_ok X (ft_226_13 X pc) (ez_t226_13 pc) := by
  delta ft_226_13 ez_t226_13
  exact fx_cnd (fk_226_9 X pc) (fk_226_12 X pc)
theorem fk_226_14 (X : ez_X) (pc : Nat) : fx_ok X (ft_226_14 X pc) (ez_t226_14 pc) := by
  delta ft_226_14 ez_t226_14
  exact fx_cnd (fk_226_6 X pc) (fk_226_13 X pc)
theorem fk_226_15 (X : ez_X) (pc : Nat) : fx_ok X (ft_226_15 X pc) (ez_t226_15 pc) := by
  delta ft_226_15 ez_t226_15
  exact fx_cnd (fx_cnd (fx_cnd (fx_cnd (fun _ _ _ _ _ _ _ _ => rfl) fx_no) (fx_cnd (fun _ _ _ _ _ _ _ _ => rfl) fx_no)) (fx_cnd (fx_cnd (fun _ _ _ _ _ _ _ _ => rfl) fx_no) (fx_cnd (fx_cnd (fun _ _ _ _ _ _ _ _ => rfl) fx_no) (fx_cnd (fun _ _ _ _ _ _ _ _ => rfl) fx_no)))) (fx_cnd (fx_cnd (fx_cnd (fun _ _ _ _ _ _ _ _ => rfl) fx_no) (fx_cnd (fun _ _ _ _ _ _ _ _ => rfl) fx_no)) (fx_cnd (fx_cnd (fun _ _ _ _ _ _ _ _ => rfl) fx_no) (fx_cnd (fx_cnd (fun _ _ _ _ _ _ _ _ => rfl) fx_no) (fx_cnd (fun _ _ _ _ _ _ _ _ => rfl) fx_no))))
theorem fk_226_16 (X : ez_X) (pc : Nat) : fx_ok X (ft_226_16 X pc) (ez_t226_16 pc) := by
  delta ft_226_16 ez_t226_16
  exact fx_cnd (fx_cnd (fx_cnd (fx_cnd (fun _ _ _ _ _ _ _ _ => rfl) fx_no) (fx_cnd (fun _ _ _ _ _ _ _ _ => rfl) fx_no)) (fx_cnd (fx_cnd (fun _ _ _ _ _ _ _ _ => rfl) fx_no) (fx_cnd (fx_cnd (fun _ _ _ _ _ _ _ _ => rfl) fx_no) (fx_cnd (fun _ _ _ _ _ _ _ _ => rfl) fx_no)))) (fx_cnd (fx_cnd (fx_cnd (fun _ _ _ _ _ _ _ _ => rfl) fx_no) (fx_cnd (fx_cnd (fun _ _ _ _ _ _ _ _ => rfl) fx_no) (fx_cnd (fun _ _ _ _ _ _ _ _ => rfl) fx_no))) (fx_cnd (fx_cnd (fun _ _ _ _ _ _ _ _ => rfl) fx_no) (fx_cnd (fx_cnd (fun _ _ _ _ _ _ _ _ => rfl) fx_no) (fx_cnd (fun _ _ _ _ _ _ _ _ => rfl) fx_no))))
theorem fk_226_17 (X : ez_X) (pc : Nat) : fx_ok X (ft_226_17 X pc) (ez_t226_17 pc) := by
  delta ft_226_17 ez_t226_17
  exact fx_cnd (fk_226_15 X pc) (fk_226_16 X pc)
theorem fk_226_18 (X : ez_X) (pc : Nat) : fx_ok X (ft_226_18 X pc) (ez_t226_18 pc) := by
  delta ft_226_18 ez_t226_18
  exact fx_cnd (fx_cnd (fx_cnd (fx_cnd (fun _ _ _ _ _ _ _ _ => rfl) fx_no) (fx_cnd (fun _ _ _ _ _ _ _ _ => rfl) fx_no)) (fx_cnd (fx_cnd (fun _ _ _ _ _ _ _ _ => rfl) fx_no) (fx_cnd (fx_cnd (fun _ _ _ _ _ _ _ _ => rfl) fx_no) (fx_cnd (fun _ _ _ _ _ _ _ _ => rfl) fx_no)))) (fx_cnd (fx_cnd (fx_cnd (fun _ _ _ _ _ _ _ _ => rfl) fx_no) (fx_cnd (fx_cnd (fun _ _ _ _ _ _ _ _ => rfl) fx_no) (fx_cnd (fun _ _ _ _ _ _ _ _ => rfl) fx_no))) (fx_cnd (fx_cnd (fun _ _ _ _ _ _ _ _ => rfl) fx_no) (fx_cnd (fx_cnd (fun _ _ _ _ _ _ _ _ => rfl) fx_no) (fx_cnd (fun _ _ _ _ _ _ _ _ => rfl) fx_no))))
theorem fk_226_19 (X : ez_X) (pc : Nat) : fx_ok X (ft_226_19 X pc) (ez_t226_19 pc) := by
  delta ft_226_19 ez_t226_19
  exact fx_cnd (fx_cnd (fx_cnd (fx_cnd (fun _ _ _ _ _ _ _ _ => rfl) fx_no) (fx_cnd (fun _ _ _ _ _ _ _ _ => rfl) fx_no)) (fx_cnd (fx_cnd (fun _ _ _ _ _ _ _ _ => rfl) fx_no) (fx_cnd (fx_cnd (fun _ _ _ _ _ _ _ _ => rfl) fx_no) (fx_cnd (fun _ _ _ _ _ _ _ _ => rfl) fx_no)))) (fx_cnd (fx_cnd (fx_cnd (fun _ _ _ _ _ _ _ _ => rfl) fx_no) (fx_cnd (fx_cnd (fun _ _ _ _ _ _ _ _ => rfl) fx_no) (fx_cnd (fun _ _ _ _ _ _ _ _ => rfl) fx_no))) (fx_cnd (fx_cnd (fun _ _ _ _ _ _ _ _ => rfl) fx_no) (fx_cnd (fx_cnd (fun _ _ _ _ _ _ _ _ => rfl) fx_no) (fx_cnd (fun _ _ _ _ _ _ _ _ => rfl) fx_no))))
theorem fk_226_20 (X : ez_X) (pc : Nat) : fx_ok X (ft_226_20 X pc) (ez_t226_20 pc) := by
  delta ft_226_20 ez_t226_20
  exact fx_cnd (fk_226_18 X pc) (fk_226_19 X pc)
theorem fk_226_21 (X : ez_X) (pc : Nat) : fx_ok X (ft_226_21 X pc) (ez_t226_21 pc) := by
  delta ft_226_21 ez_t226_21
  exact fx_cnd (fk_226_17 X pc) (fk_226_20 X pc)
theorem fk_226_22 (X : ez_X) (pc : Nat) : fx_ok X (ft_226_22 X pc) (ez_t226_22 pc) := by
  delta ft_226_22 ez_t226_22
  exact fx_cnd (fx_cnd (fx_cnd (fx_cnd (fun _ _ _ _ _ _ _ _ => rfl) fx_no) (fx_cnd (fun _ _ _ _ _ _ _ _ => rfl) fx_no)) (fx_cnd (fx_cnd (fun _ _ _ _ _ _ _ _ => rfl) fx_no) (fx_cnd (fx_cnd (fun _ _ _ _ _ _ _ _ => rfl) fx_no) (fx_cnd (fun _ _ _ _ _ _ _ _ => rfl) fx_no)))) (fx_cnd (fx_cnd (fx_cnd (fun _ _ _ _ _ _ _ _ => rfl) fx_no) (fx_cnd (fun _ _ _ _ _ _ _ _ => rfl) fx_no)) (fx_cnd (fx_cnd (fun _ _ _ _ _ _ _ _ => rfl) fx_no) (fx_cnd (fx_cnd (fun _ _ _ _ _ _ _ _ => rfl) fx_no) (fx_cnd (fun _ _ _ _ _ _ _ _ => rfl) fx_no))))
theorem fk_226_23 (X : ez_X) (pc : Nat) : fx_ok X (ft_226_23 X pc) (ez_t226_23 pc) := by
  delta ft_226_23 ez_t226_23
  exact fx_cnd (fx_cnd (fx_cnd (fx_cnd (fun _ _ _ _ _ _ _ _ => rfl) fx_no) (fx_cnd (fun _ _ _ _ _ _ _ _ => rfl) fx_no)) (fx_cnd (fx_cnd (fun _ _ _ _ _ _ _ _ => rfl) fx_no) (fx_cnd (fx_cnd (fun _ _ _ _ _ _ _ _ => rfl) fx_no) (fx_cnd (fun _ _ _ _ _ _ _ _ => rfl) fx_no)))) (fx_cnd (fx_cnd (fx_cnd (fun _ _ _ _ _ _ _ _ => rfl) fx_no) (fx_cnd (fx_cnd (fun _ _ _ _ _ _ _ _ => rfl) fx_no) (fx_cnd (fun _ _ _ _ _ _ _ _ => rfl) fx_no))) (fx_cnd (fx_cnd (fun _ _ _ _ _ _ _ _ => rfl) fx_no) (fx_cnd (fx_cnd (fun _ _ _ _ _ _ _ _ => rfl) fx_no) (fx_cnd (fun _ _ _ _ _ _ _ _ => rfl) fx_no))))
theorem fk_226_24 (X : ez_X) (pc : Nat) : fx_ok X (ft_226_24 X pc) (ez_t226_24 pc) := by
  delta ft_226_24 ez_t226_24
  exact fx_cnd (fk_226_22 X pc) (fk_226_23 X pc)
theorem fk_226_25 (X : ez_X) (pc : Nat) : fx_ok X (ft_226_25 X pc) (ez_t226_25 pc) := by
  delta ft_226_25 ez_t226_25
  exact fx_cnd (fx_cnd (fx_cnd (fx_cnd (fun _ _ _ _ _ _ _ _ => rfl) fx_no) (fx_cnd (fun _ _ _ _ _ _ _ _ => rfl) fx_no)) (fx_cnd (fx_cnd (fun _ _ _ _ _ _ _ _ => rfl) fx_no) (fx_cnd (fx_cnd (fun _ _ _ _ _ _ _ _ => rfl) fx_no) (fx_cnd (fun _ _ _ _ _ _ _ _ => rfl) fx_no)))) (fx_cnd (fx_cnd (fx_cnd (fun _ _ _ _ _ _ _ _ => rfl) fx_no) (fx_cnd (fx_cnd (fun _ _ _ _ _ _ _ _ => rfl) fx_no) (fx_cnd (fun _ _ _ _ _ _ _ _ => rfl) fx_no))) (fx_cnd (fx_cnd (fun _ _ _ _ _ _ _ _ => rfl) fx_no) (fx_cnd (fx_cnd (fun _ _ _ _ _ _ _ _ => rfl) fx_no) (fx_cnd (fun _ _ _ _ _ _ _ _ => rfl) fx_no))))
theorem fk_226_26 (X : ez_X) (pc : Nat) : fx_ok X (ft_226_26 X pc) (ez_t226_26 pc) := by
  delta ft_226_26 ez_t226_26
  exact fx_cnd (fx_cnd (fx_cnd (fx_cnd (fun _ _ _ _ _ _ _ _ => rfl) fx_no) (fx_cnd (fun _ _ _ _ _ _ _ _ => rfl) fx_no)) (fx_cnd (fx_cnd (fun _ _ _ _ _ _ _ _ => rfl) fx_no) (fx_cnd (fx_cnd (fun _ _ _ _ _ _ _ _ => rfl) fx_no) (fx_cnd (fun _ _ _ _ _ _ _ _ => rfl) fx_no)))) (fx_cnd (fx_cnd (fx_cnd (fun _ _ _ _ _ _ _ _ => rfl) fx_no) (fx_cnd (fx_cnd (fun _ _ _ _ _ _ _ _ => rfl) fx_no) (fx_cnd (fun _ _ _ _ _ _ _ _ => rfl) fx_no))) (fx_cnd (fx_cnd (fun _ _ _ _ _ _ _ _ => rfl) fx_no) (fx_cnd (fx_cnd (fun _ _ _ _ _ _ _ _ => rfl) fx_no) (fx_cnd (fun _ _ _ _ _ _ _ _ => rfl) fx_no))))
theorem fk_226_27 (X : ez_X) (pc : Nat) : fx_ok X (ft_226_27 X pc) (ez_t226_27 pc) := by
  delta ft_226_27 ez_t226_27
  exact fx_cnd (fk_226_25 X pc) (fk_226_26 X pc)
theorem fk_226_28 (X : ez_X) (pc : Nat) : fx_ok X (ft_226_28 X pc) (ez_t226_28 pc) := by
  delta ft_226_28 ez_t226_28
  exact fx_cnd (fk_226_24 X pc) (fk_226_27 X pc)
theorem fk_226_29 (X : ez_X) (pc : Nat) : fx_ok X (ft_226_29 X pc) (ez_t226_29 pc) := by
  delta ft_226_29 ez_t226_29
  exact fx_cnd (fk_226_21 X pc) (fk_226_28 X pc)
theorem fk_226 (X : ez_X) (pc : Nat) : fx_ok X (ft_226 X pc) (ez_t226 pc) := by
  delta ft_226 ez_t226
  exact fx_cnd (fk_226_14 X pc) (fk_226_29 X pc)
theorem fk_227_0 (X : ez_X) (pc : Nat) : fx_ok X (ft_227_0 X pc) (ez_t227_0 pc) := by
  delta ft_227_0 ez_t227_0
  exact fx_cnd (fx_cnd (fx_cnd (fun _ _ _ _ _ _ _ _ => rfl) fx_no) (fx_cnd (fx_cnd (fun _ _ _ _ _ _ _ _ => rfl) fx_no) (fx_cnd (fun _ _ _ _ _ _ _ _ => rfl) fx_no))) (fx_cnd (fx_cnd (fx_cnd (fun _ _ _ _ _ _ _ _ => rfl) fx_no) (fx_cnd (fun _ _ _ _ _ _ _ _ => rfl) fx_no)) (fx_cnd (fx_cnd (fun _ _ _ _ _ _ _ _ => rfl) fx_no) (fx_cnd (fun _ _ _ _ _ _ _ _ => rfl) fx_no)))
theorem fk_227_1 (X : ez_X) (pc : Nat) : fx_ok X (ft_227_1 X pc) (ez_t227_1 pc) := by
  delta ft_227_1 ez_t227_1
  exact fx_cnd (fx_cnd (fx_cnd (fx_cnd (fun _ _ _ _ _ _ _ _ => rfl) fx_no) (fx_cnd (fun _ _ _ _ _ _ _ _ => rfl) fx_no)) (fx_cnd (fx_cnd (fun _ _ _ _ _ _ _ _ => rfl) fx_no) (fx_cnd (fun _ _ _ _ _ _ _ _ => rfl) fx_no))) (fx_cnd (fx_cnd (fx_cnd (fun _ _ _ _ _ _ _ _ => rfl) fx_no) (fx_cnd (fun _ _ _ _ _ _ _ _ => rfl) fx_no)) (fx_cnd (fx_cnd (fun _ _ _ _ _ _ _ _ => rfl) fx_no) (fx_cnd (fun _ _ _ _ _ _ _ _ => rfl) fx_no)))
theorem fk_227 (X : ez_X) (pc : Nat) : fx_ok X (ft_227 X pc) (ez_t227 pc) := by
  delta ft_227 ez_t227
  exact fx_cnd (fk_227_0 X pc) (fk_227_1 X pc)
theorem fk_228_0 (X : ez_X) (pc : Nat) : fx_ok X (ft_228_0 X pc) (ez_t228_0 pc) := by
  delta ft_228_0 ez_t228_0
  exact fx_cnd (fx_cnd (fx_cnd (fun _ _ _ _ _ _ _ _ => rfl) fx_no) (fx_cnd (fx_cnd (fun _ _ _ _ _ _ _ _ => rfl) fx_no) (fx_cnd (fun _ _ _ _ _ _ _ _ => rfl) fx_no))) (fx_cnd (fx_cnd (fun _ _ _ _ _ _ _ _ => rfl) fx_no) (fx_cnd (fx_cnd (fun _ _ _ _ _ _ _ _ => rfl) fx_no) (fx_cnd (fun _ _ _ _ _ _ _ _ => rfl) fx_no)))
theorem fk_228_1 (X : ez_X) (pc : Nat) : fx_ok X (ft_228_1 X pc) (ez_t228_1 pc) := by
  delta ft_228_1 ez_t228_1
  exact fx_cnd (fx_cnd (fx_cnd (fun _ _ _ _ _ _ _ _ => rfl) fx_no) (fx_cnd (fx_cnd (fun _ _ _ _ _ _ _ _ => rfl) fx_no) (fx_cnd (fun _ _ _ _ _ _ _ _ => rfl) fx_no))) (fx_cnd (fx_cnd (fx_cnd (fun _ _ _ _ _ _ _ _ => rfl) fx_no) (fx_cnd (fun _ _ _ _ _ _ _ _ => rfl) fx_no)) (fx_cnd (fx_cnd (fun _ _ _ _ _ _ _ _ => rfl) fx_no) (fx_cnd (fun _ _ _ _ _ _ _ _ => rfl) fx_no)))
theorem fk_228_2 (X : ez_X) (pc : Nat) : fx_ok X (ft_228_2 X pc) (ez_t228_2 pc) := by
  delta ft_228_2 ez_t228_2
  exact fx_cnd (fk_228_0 X pc) (fk_228_1 X pc)
theorem fk_228_3 (X : ez_X) (pc : Nat) : fx_ok X (ft_228_3 X pc) (ez_t228_3 pc) := by
  delta ft_228_3 ez_t228_3
  exact fx_cnd (fx_cnd (fx_cnd (fun _ _ _ _ _ _ _ _ => rfl) fx_no) (fx_cnd (fx_cnd (fun _ _ _ _ _ _ _ _ => rfl) fx_no) (fx_cnd (fun _ _ _ _ _ _ _ _ => rfl) fx_no))) (fx_cnd (fx_cnd (fun _ _ _ _ _ _ _ _ => rfl) fx_no) (fx_cnd (fx_cnd (fun _ _ _ _ _ _ _ _ => rfl) fx_no) (fx_cnd (fun _ _ _ _ _ _ _ _ => rfl) fx_no)))
theorem fk_228_4 (X : ez_X) (pc : Nat) : fx_ok X (ft_228_4 X pc) (ez_t228_4 pc) := by
  delta ft_228_4 ez_t228_4
  exact fx_cnd (fx_cnd (fx_cnd (fun _ _ _ _ _ _ _ _ => rfl) fx_no) (fx_cnd (fx_cnd (fun _ _ _ _ _ _ _ _ => rfl) fx_no) (fx_cnd (fun _ _ _ _ _ _ _ _ => rfl) fx_no))) (fx_cnd (fx_cnd (fx_cnd (fun _ _ _ _ _ _ _ _ => rfl) fx_no) (fx_cnd (fun _ _ _ _ _ _ _ _ => rfl) fx_no)) (fx_cnd (fx_cnd (fun _ _ _ _ _ _ _ _ => rfl) fx_no) (fx_cnd (fun _ _ _ _ _ _ _ _ => rfl) fx_no)))
theorem fk_228_5 (X : ez_X) (pc : Nat) : fx_ok X (ft_228_5 X pc) (ez_t228_5 pc) := by
  delta ft_228_5 ez_t228_5
  exact fx_cnd (fk_228_3 X pc) (fk_228_4 X pc)
theorem fk_228 (X : ez_X) (pc : Nat) : fx_ok X (ft_228 X pc) (ez_t228 pc) := by
  delta ft_228 ez_t228
  exact fx_cnd (fk_228_2 X pc) (fk_228_5 X pc)
theorem fk_229_0 (X : ez_X) (pc : Nat) : fx_ok X (ft_229_0 X pc) (ez_t229_0 pc) := by
  delta ft_229_0 ez_t229_0
  exact fx_cnd (fx_cnd (fx_cnd (fun _ _ _ _ _ _ _ _ => rfl) fx_no) (fx_cnd (fx_cnd (fun _ _ _ _ _ _ _ _ => rfl) fx_no) (fx_cnd (fun _ _ _ _ _ _ _ _ => rfl) fx_no))) (fx_cnd (fx_cnd (fun _ _ _ _ _ _ _ _ => rfl) fx_no) (fx_cnd (fx_cnd (fun _ _ _ _ _ _ _ _ => rfl) fx_no) (fx_cnd (fun _ _ _ _ _ _ _ _ => rfl) fx_no)))
theorem fk_229_1 (X : ez_X) (pc : Nat) : fx_ok X (ft_229_1 X pc) (ez_t229_1 pc) := by
  delta ft_229_1 ez_t229_1
  exact fx_cnd (fx_cnd (fx_cnd (fun _ _ _ _ _ _ _ _ => rfl) fx_no) (fx_cnd (fx_cnd (fun _ _ _ _ _ _ _ _ => rfl) fx_no) (fx_cnd (fun _ _ _ _ _ _ _ _ => rfl) fx_no))) (fx_cnd (fx_cnd (fx_cnd (fun _ _ _ _ _ _ _ _ => rfl) fx_no) (fx_cnd (fun _ _ _ _ _ _ _ _ => rfl) fx_no)) (fx_cnd (fx_cnd (fun _ _ _ _ _ _ _ _ => rfl) fx_no) (fx_cnd (fun _ _ _ _ _ _ _ _ => rfl) fx_no)))
theorem fk_229_2 (X : ez_X) (pc : Nat) : fx_ok X (ft_229_2 X pc) (ez_t229_2 pc) := by
  delta ft_229_2 ez_t229_2
  exact fx_cnd (fk_229_0 X pc) (fk_229_1 X pc)
theorem fk_229_3 (X : ez_X) (pc : Nat) : fx_ok X (ft_229_3 X pc) (ez_t229_3 pc) := by
  delta ft_229_3 ez_t229_3
  exact fx_cnd (fx_cnd (fx_cnd (fun _ _ _ _ _ _ _ _ => rfl) fx_no) (fx_cnd (fx_cnd (fun _ _ _ _ _ _ _ _ => rfl) fx_no) (fx_cnd (fun _ _ _ _ _ _ _ _ => rfl) fx_no))) (fx_cnd (fx_cnd (fx_cnd (fun _ _ _ _ _ _ _ _ => rfl) fx_no) (fx_cnd (fun _ _ _ _ _ _ _ _ => rfl) fx_no)) (fx_cnd (fx_cnd (fun _ _ _ _ _ _ _ _ => rfl) fx_no) (fx_cnd (fun _ _ _ _ _ _ _ _ => rfl) fx_no)))
theorem fk_229_4 (X : ez_X) (pc : Nat) : fx_ok X (ft_229_4 X pc) (ez_t229_4 pc) := by
  delta ft_229_4 ez_t229_4
  exact fx_cnd (fx_cnd (fx_cnd (fun _ _ _ _ _ _ _ _ => rfl) fx_no) (fx_cnd (fx_cnd (fun _ _ _ _ _ _ _ _ => rfl) fx_no) (fx_cnd (fun _ _ _ _ _ _ _ _ => rfl) fx_no))) (fx_cnd (fx_cnd (fx_cnd (fun _ _ _ _ _ _ _ _ => rfl) fx_no) (fx_cnd (fun _ _ _ _ _ _ _ _ => rfl) fx_no)) (fx_cnd (fx_cnd (fun _ _ _ _ _ _ _ _ => rfl) fx_no) (fx_cnd (fun _ _ _ _ _ _ _ _ => rfl) fx_no)))
theorem fk_229_5 (X : ez_X) (pc : Nat) : fx_ok X (ft_229_5 X pc) (ez_t229_5 pc) := by
  delta ft_229_5 ez_t229_5
  exact fx_cnd (fk_229_3 X pc) (fk_229_4 X pc)
theorem fk_229 (X : ez_X) (pc : Nat) : fx_ok X (ft_229 X pc) (ez_t229 pc) := by
  delta ft_229 ez_t229
  exact fx_cnd (fk_229_2 X pc) (fk_229_5 X pc)
theorem fk_230_0 (X : ez_X) (pc : Nat) : fx_ok X (ft_230_0 X pc) (ez_t230_0 pc) := by
  delta ft_230_0 ez_t230_0
  exact fx_cnd (fx_cnd (fx_cnd (fun _ _ _ _ _ _ _ _ => rfl) fx_no) (fx_cnd (fx_cnd (fun _ _ _ _ _ _ _ _ => rfl) fx_no) (fx_cnd (fun _ _ _ _ _ _ _ _ => rfl) fx_no))) (fx_cnd (fx_cnd (fx_cnd (fun _ _ _ _ _ _ _ _ => rfl) fx_no) (fx_cnd (fun _ _ _ _ _ _ _ _ => rfl) fx_no)) (fx_cnd (fx_cnd (fun _ _ _ _ _ _ _ _ => rfl) fx_no) (fx_cnd (fun _ _ _ _ _ _ _ _ => rfl) fx_no)))
theorem fk_230_1 (X : ez_X) (pc : Nat) : fx_ok X (ft_230_1 X pc) (ez_t230_1 pc) := by
  delta ft_230_1 ez_t230_1
  exact fx_cnd (fx_cnd (fx_cnd (fx_cnd (fun _ _ _ _ _ _ _ _ => rfl) fx_no) (fx_cnd (fun _ _ _ _ _ _ _ _ => rfl) fx_no)) (fx_cnd (fx_cnd (fun _ _ _ _ _ _ _ _ => rfl) fx_no) (fx_cnd (fun _ _ _ _ _ _ _ _ => rfl) fx_no))) (fx_cnd (fx_cnd (fx_cnd (fun _ _ _ _ _ _ _ _ => rfl) fx_no) (fx_cnd (fun _ _ _ _ _ _ _ _ => rfl) fx_no)) (fx_cnd (fx_cnd (fun _ _ _ _ _ _ _ _ => rfl) fx_no) (fx_cnd (fun _ _ _ _ _ _ _ _ => rfl) fx_no)))
theorem fk_230_2 (X : ez_X) (pc : Nat) : fx_ok X (ft_230_2 X pc) (ez_t230_2 pc) := by
  delta ft_230_2 ez_t230_2
  exact fx_cnd (fk_230_0 X pc) (fk_230_1 X pc)
theorem fk_230_3 (X : ez_X) (pc : Nat) : fx_ok X (ft_230_3 X pc) (ez_t230_3 pc) := by
  delta ft_230_3 ez_t230_3
  exact fx_cnd (fx_cnd (fx_cnd (fun _ _ _ _ _ _ _ _ => rfl) fx_no) (fx_cnd (fx_cnd (fun _ _ _ _ _ _ _ _ => rfl) fx_no) (fx_cnd (fun _ _ _ _ _ _ _ _ => rfl) fx_no))) (fx_cnd (fx_cnd (fx_cnd (fun _ _ _ _ _ _ _ _ => rfl) fx_no) (fx_cnd (fun _ _ _ _ _ _ _ _ => rfl) fx_no)) (fx_cnd (fx_cnd (fun _ _ _ _ _ _ _ _ => rfl) fx_no) (fx_cnd (fun _ _ _ _ _ _ _ _ => rfl) fx_no)))
theorem fk_230_4 (X : ez_X) (pc : Nat) : fx_ok X (ft_230_4 X pc) (ez_t230_4 pc) := by
  delta ft_230_4 ez_t230_4
  exact fx_cnd (fx_cnd (fx_cnd (fx_cnd (fun _ _ _ _ _ _ _ _ => rfl) fx_no) (fx_cnd (fun _ _ _ _ _ _ _ _ => rfl) fx_no)) (fx_cnd (fx_cnd (fun _ _ _ _ _ _ _ _ => rfl) fx_no) (fx_cnd (fun _ _ _ _ _ _ _ _ => rfl) fx_no))) (fx_cnd (fx_cnd (fx_cnd (fun _ _ _ _ _ _ _ _ => rfl) fx_no) (fx_cnd (fun _ _ _ _ _ _ _ _ => rfl) fx_no)) (fx_cnd (fx_cnd (fun _ _ _ _ _ _ _ _ => rfl) fx_no) (fx_cnd (fun _ _ _ _ _ _ _ _ => rfl) fx_no)))
theorem fk_230_5 (X : ez_X) (pc : Nat) : fx_ok X (ft_230_5 X pc) (ez_t230_5 pc) := by
  delta ft_230_5 ez_t230_5
  exact fx_cnd (fk_230_3 X pc) (fk_230_4 X pc)
theorem fk_230_6 (X : ez_X) (pc : Nat) : fx_ok X (ft_230_6 X pc) (ez_t230_6 pc) := by
  delta ft_230_6 ez_t230_6
  exact fx_cnd (fk_230_2 X pc) (fk_230_5 X pc)
theorem fk_230_7 (X : ez_X) (pc : Nat) : fx_ok X (ft_230_7 X pc) (ez_t230_7 pc) := by
  delta ft_230_7 ez_t230_7
  exact fx_cnd (fx_cnd (fx_cnd (fun _ _ _ _ _ _ _ _ => rfl) fx_no) (fx_cnd (fx_cnd (fun _ _ _ _ _ _ _ _ => rfl) fx_no) (fx_cnd (fun _ _ _ _ _ _ _ _ => rfl) fx_no))) (fx_cnd (fx_cnd (fx_cnd (fun _ _ _ _ _ _ _ _ => rfl) fx_no) (fx_cnd (fun _ _ _ _ _ _ _ _ => rfl) fx_no)) (fx_cnd (fx_cnd (fun _ _ _ _ _ _ _ _ => rfl) fx_no) (fx_cnd (fun _ _ _ _ _ _ _ _ => rfl) fx_no)))
theorem fk_230_8 (X : ez_X) (pc : Nat) : fx_ok X (ft_230_8 X pc) (ez_t230_8 pc) := by
  delta ft_230_8 ez_t230_8
  exact fx_cnd (fx_cnd (fx_cnd (fx_cnd (fun _ _ _ _ _ _ _ _ => rfl) fx_no) (fx_cnd (fun _ _ _ _ _ _ _ _ => rfl) fx_no)) (fx_cnd (fx_cnd (fun _ _ _ _ _ _ _ _ => rfl) fx_no) (fx_cnd (fun _ _ _ _ _ _ _ _ => rfl) fx_no))) (fx_cnd (fx_cnd (fx_cnd (fun _ _ _ _ _ _ _ _ => rfl) fx_no) (fx_cnd (fun _ _ _ _ _ _ _ _ => rfl) fx_no)) (fx_cnd (fx_cnd (fun _ _ _ _ _ _ _ _ => rfl) fx_no) (fx_cnd (fun _ _ _ _ _ _ _ _ => rfl) fx_no)))
theorem fk_230_9 (X : ez_X) (pc : Nat) : fx_ok X (ft_230_9 X pc) (ez_t230_9 pc) := by
  delta ft_230_9 ez_t230_9
  exact fx_cnd (fk_230_7 X pc) (fk_230_8 X pc)
theorem fk_230_10 (X : ez_X) (pc : Nat) : fx_ok X (ft_230_10 X pc) (ez_t230_10 pc) := by
  delta ft_230_10 ez_t230_10
  exact fx_cnd (fx_cnd (fx_cnd (fun _ _ _ _ _ _ _ _ => rfl) fx_no) (fx_cnd (fx_cnd (fun _ _ _ _ _ _ _ _ => rfl) fx_no) (fx_cnd (fun _ _ _ _ _ _ _ _ => rfl) fx_no))) (fx_cnd (fx_cnd (fx_cnd (fun _ _ _ _ _ _ _ _ => rfl) fx_no) (fx_cnd (fun _ _ _ _ _ _ _ _ => rfl) fx_no)) (fx_cnd (fx_cnd (fun _ _ _ _ _ _ _ _ => rfl) fx_no) (fx_cnd (fun _ _ _ _ _ _ _ _ => rfl) fx_no)))
theorem fk_230_11 (X : ez_X) (pc : Nat) : fx_ok X (ft_230_11 X pc) (ez_t230_11 pc) := by
  delta ft_230_11 ez_t230_11
  exact fx_cnd (fx_cnd (fx_cnd (fx_cnd (fun _ _ _ _ _ _ _ _ => rfl) fx_no) (fx_cnd (fun _ _ _ _ _ _ _ _ => rfl) fx_no)) (fx_cnd (fx_cnd (fun _ _ _ _ _ _ _ _ => rfl) fx_no) (fx_cnd (fun _ _ _ _ _ _ _ _ => rfl) fx_no))) (fx_cnd (fx_cnd (fx_cnd (fun _ _ _ _ _ _ _ _ => rfl) fx_no) (fx_cnd (fun _ _ _ _ _ _ _ _ => rfl) fx_no)) (fx_cnd (fx_cnd (fun _ _ _ _ _ _ _ _ => rfl) fx_no) (fx_cnd (fun _ _ _ _ _ _ _ _ => rfl) fx_no)))
theorem fk_230_12 (X : ez_X) (pc : Nat) : fx_ok X (ft_230_12 X pc) (ez_t230_12 pc) := by
  delta ft_230_12 ez_t230_12
  exact fx_cnd (fk_230_10 X pc) (fk_230_11 X pc)
theorem fk_230_13 (X : ez_X) (pc : Nat) : fx_ok X (ft_230_13 X pc) (ez_t230_13 pc) := by
  delta ft_230_13 ez_t230_13
  exact fx_cnd (fk_230_9 X pc) (fk_230_12 X pc)
theorem fk_230 (X : ez_X) (pc : Nat) : fx_ok X (ft_230 X pc) (ez_t230 pc) := by
  delta ft_230 ez_t230
  exact fx_cnd (fk_230_6 X pc) (fk_230_13 X pc)
theorem fk_231_0 (X : ez_X) (pc : Nat) : fx_ok X (ft_231_0 X pc) (ez_t231_0 pc) := by
  delta ft_231_0 ez_t231_0
  exact fx_cnd (fx_cnd (fx_cnd (fx_cnd (fun _ _ _ _ _ _ _ _ => rfl) fx_no) (fx_cnd (fun _ _ _ _ _ _ _ _ => rfl) fx_no)) (fx_cnd (fx_cnd (fun _ _ _ _ _ _ _ _ => rfl) fx_no) (fx_cnd (fun _ _ _ _ _ _ _ _ => rfl) fx_no))) (fx_cnd (fx_cnd (fx_cnd (fun _ _ _ _ _ _ _ _ => rfl) fx_no) (fx_cnd (fun _ _ _ _ _ _ _ _ => rfl) fx_no)) (fx_cnd (fx_cnd (fun _ _ _ _ _ _ _ _ => rfl) fx_no) (fx_cnd (fun _ _ _ _ _ _ _ _ => rfl) fx_no)))
theorem fk_231_1 (X : ez_X) (pc : Nat) : fx_ok X (ft_231_1 X pc) (ez_t231_1 pc) := by
  delta ft_231_1 ez_t231_1
  exact fx_cnd (fx_cnd (fx_cnd (fx_cnd (fun _ _ _ _ _ _ _ _ => rfl) fx_no) (fx_cnd (fun _ _ _ _ _ _ _ _ => rfl) fx_no)) (fx_cnd (fx_cnd (fun _ _ _ _ _ _ _ _ => rfl) fx_no) (fx_cnd (fun _ _ _ _ _ _ _ _ => rfl) fx_no))) (fx_cnd (fx_cnd (fx_cnd (fun _ _ _ _ _ _ _ _ => rfl) fx_no) (fx_cnd (fun _ _ _ _ _ _ _ _ => rfl) fx_no)) (fx_cnd (fx_cnd (fun _ _ _ _ _ _ _ _ => rfl) fx_no) (fx_cnd (fun _ _ _ _ _ _ _ _ => rfl) fx_no)))
theorem fk_231_2 (X : ez_X) (pc : Nat) : fx_ok X (ft_231_2 X pc) (ez_t231_2 pc) := by
  delta ft_231_2 ez_t231_2
  exact fx_cnd (fk_231_0 X pc) (fk_231_1 X pc)
theorem fk_231_3 (X : ez_X) (pc : Nat) : fx_ok X (ft_231_3 X pc) (ez_t231_3 pc) := by
  delta ft_231_3 ez_t231_3
  exact fx_cnd (fx_cnd (fx_cnd (fx_cnd (fun _ _ _ _ _ _ _ _ => rfl) fx_no) (fx_cnd (fun _ _ _ _ _ _ _ _ => rfl) fx_no)) (fx_cnd (fx_cnd (fun _ _ _ _ _ _ _ _ => rfl) fx_no) (fx_cnd (fun _ _ _ _ _ _ _ _ => rfl) fx_no))) (fx_cnd (fx_cnd (fx_cnd (fun _ _ _ _ _ _ _ _ => rfl) fx_no) (fx_cnd (fun _ _ _ _ _ _ _ _ => rfl) fx_no)) (fx_cnd (fx_cnd (fun _ _ _ _ _ _ _ _ => rfl) fx_no) (fx_cnd (fun _ _ _ _ _ _ _ _ => rfl) fx_no)))
theorem fk_231_4 (X : ez_X) (pc : Nat) : fx_ok X (ft_231_4 X pc) (ez_t231_4 pc) := by
  delta ft_231_4 ez_t231_4
  exact fx_cnd (fx_cnd (fx_cnd (fx_cnd (fun _ _ _ _ _ _ _ _ => rfl) fx_no) (fx_cnd (fun _ _ _ _ _ _ _ _ => rfl) fx_no)) (fx_cnd (fx_cnd (fun _ _ _ _ _ _ _ _ => rfl) fx_no) (fx_cnd (fun _ _ _ _ _ _ _ _ => rfl) fx_no))) (fx_cnd (fx_cnd (fx_cnd (fun _ _ _ _ _ _ _ _ => rfl) fx_no) (fx_cnd (fun _ _ _ _ _ _ _ _ => rfl) fx_no)) (fx_cnd (fx_cnd (fun _ _ _ _ _ _ _ _ => rfl) fx_no) (fx_cnd (fx_cnd (fun _ _ _ _ _ _ _ _ => rfl) fx_no) (fx_cnd (fun _ _ _ _ _ _ _ _ => rfl) fx_no))))
theorem fk_231_5 (X : ez_X) (pc : Nat) : fx_ok X (ft_231_5 X pc) (ez_t231_5 pc) := by
  delta ft_231_5 ez_t231_5
  exact fx_cnd (fk_231_3 X pc) (fk_231_4 X pc)
theorem fk_231 (X : ez_X) (pc : Nat) : fx_ok X (ft_231 X pc) (ez_t231 pc) := by
  delta ft_231 ez_t231
  exact fx_cnd (fk_231_2 X pc) (fk_231_5 X pc)
theorem fk_232_0 (X : ez_X) (pc : Nat) : fx_ok X (ft_232_0 X pc) (ez_t232_0 pc) := by
  delta ft_232_0 ez_t232_0
  exact fx_cnd (fx_cnd (fx_cnd (fx_cnd (fun _ _ _ _ _ _ _ _ => rfl) fx_no) (fx_cnd (fun _ _ _ _ _ _ _ _ => rfl) fx_no)) (fx_cnd (fx_cnd (fun _ _ _ _ _ _ _ _ => rfl) fx_no) (fx_cnd (fx_cnd (fun _ _ _ _ _ _ _ _ => rfl) fx_no) (fx_cnd (fun _ _ _ _ _ _ _ _ => rfl) fx_no)))) (fx_cnd (fx_cnd (fx_cnd (fun _ _ _ _ _ _ _ _ => rfl) fx_no) (fx_cnd (fun _ _ _ _ _ _ _ _ => rfl) fx_no)) (fx_cnd (fx_cnd (fun _ _ _ _ _ _ _ _ => rfl) fx_no) (fx_cnd (fx_cnd (fun _ _ _ _ _ _ _ _ => rfl) fx_no) (fx_cnd (fun _ _ _ _ _ _ _ _ => rfl) fx_no))))
theorem fk_232_1 (X : ez_X) (pc : Nat) : fx_ok X (ft_232_1 X pc) (ez_t232_1 pc) := by
  delta ft_232_1 ez_t232_1
  exact fx_cnd (fx_cnd (fx_cnd (fx_cnd (fun _ _ _ _ _ _ _ _ => rfl) fx_no) (fx_cnd (fun _ _ _ _ _ _ _ _ => rfl) fx_no)) (fx_cnd (fx_cnd (fun _ _ _ _ _ _ _ _ => rfl) fx_no) (fx_cnd (fx_cnd (fun _ _ _ _ _ _ _ _ => rfl) fx_no) (fx_cnd (fun _ _ _ _ _ _ _ _ => rfl) fx_no)))) (fx_cnd (fx_cnd (fx_cnd (fun _ _ _ _ _ _ _ _ => rfl) fx_no) (fx_cnd (fun _ _ _ _ _ _ _ _ => rfl) fx_no)) (fx_cnd (fx_cnd (fun _ _ _ _ _ _ _ _ => rfl) fx_no) (fx_cnd (fx_cnd (fun _ _ _ _ _ _ _ _ => rfl) fx_no) (fx_cnd (fun _ _ _ _ _ _ _ _ => rfl) fx_no))))
theorem fk_232 (X : ez_X) (pc : Nat) : fx_ok X (ft_232 X pc) (ez_t232 pc) := by
  delta ft_232 ez_t232
  exact fx_cnd (fk_232_0 X pc) (fk_232_1 X pc)
theorem fk_233_0 (X : ez_X) (pc : Nat) : fx_ok X (ft_233_0 X pc) (ez_t233_0 pc) := by
  delta ft_233_0 ez_t233_0
  exact fx_cnd (fx_cnd (fx_cnd (fx_cnd (fun _ _ _ _ _ _ _ _ => rfl) fx_no) (fx_cnd (fun _ _ _ _ _ _ _ _ => rfl) fx_no)) (fx_cnd (fx_cnd (fun _ _ _ _ _ _ _ _ => rfl) fx_no) (fx_cnd (fun _ _ _ _ _ _ _ _ => rfl) fx_no))) (fx_cnd (fx_cnd (fx_cnd (fun _ _ _ _ _ _ _ _ => rfl) fx_no) (fx_cnd (fun _ _ _ _ _ _ _ _ => rfl) fx_no)) (fx_cnd (fx_cnd (fun _ _ _ _ _ _ _ _ => rfl) fx_no) (fx_cnd (fun _ _ _ _ _ _ _ _ => rfl) fx_no)))
theorem fk_233_1 (X : ez_X) (pc : Nat) : fx_ok X (ft_233_1 X pc) (ez_t233_1 pc) := by
  delta ft_233_1 ez_t233_1
  exact fx_cnd (fx_cnd (fx_cnd (fx_cnd (fun _ _ _ _ _ _ _ _ => rfl) fx_no) (fx_cnd (fun _ _ _ _ _ _ _ _ => rfl) fx_no)) (fx_cnd (fx_cnd (fun _ _ _ _ _ _ _ _ => rfl) fx_no) (fx_cnd (fun _ _ _ _ _ _ _ _ => rfl) fx_no))) (fx_cnd (fx_cnd (fx_cnd (fun _ _ _ _ _ _ _ _ => rfl) fx_no) (fx_cnd (fun _ _ _ _ _ _ _ _ => rfl) fx_no)) (fx_cnd (fx_cnd (fun _ _ _ _ _ _ _ _ => rfl) fx_no) (fx_cnd (fun _ _ _ _ _ _ _ _ => rfl) fx_no)))
theorem fk_233_2 (X : ez_X) (pc : Nat) : fx_ok X (ft_233_2 X pc) (ez_t233_2 pc) := by
  delta ft_233_2 ez_t233_2
  exact fx_cnd (fk_233_0 X pc) (fk_233_1 X pc)
theorem fk_233_3 (X : ez_X) (pc : Nat) : fx_ok X (ft_233_3 X pc) (ez_t233_3 pc) := by
  delta ft_233_3 ez_t233_3
  exact fx_cnd (fx_cnd (fx_cnd (fx_cnd (fun _ _ _ _ _ _ _ _ => rfl) fx_no) (fx_cnd (fun _ _ _ _ _ _ _ _ => rfl) fx_no)) (fx_cnd (fx_cnd (fun _ _ _ _ _ _ _ _ => rfl) fx_no) (fx_cnd (fun _ _ _ _ _ _ _ _ => rfl) fx_no))) (fx_cnd (fx_cnd (fx_cnd (fun _ _ _ _ _ _ _ _ => rfl) fx_no) (fx_cnd (fun _ _ _ _ _ _ _ _ => rfl) fx_no)) (fx_cnd (fx_cnd (fun _ _ _ _ _ _ _ _ => rfl) fx_no) (fx_cnd (fun _ _ _ _ _ _ _ _ => rfl) fx_no)))
theorem fk_233_4 (X : ez_X) (pc : Nat) : fx_ok X (ft_233_4 X pc) (ez_t233_4 pc) := by
  delta ft_233_4 ez_t233_4
  exact fx_cnd (fx_cnd (fx_cnd (fx_cnd (fun _ _ _ _ _ _ _ _ => rfl) fx_no) (fx_cnd (fun _ _ _ _ _ _ _ _ => rfl) fx_no)) (fx_cnd (fx_cnd (fun _ _ _ _ _ _ _ _ => rfl) fx_no) (fx_cnd (fun _ _ _ _ _ _ _ _ => rfl) fx_no))) (fx_cnd (fx_cnd (fx_cnd (fun _ _ _ _ _ _ _ _ => rfl) fx_no) (fx_cnd (fun _ _ _ _ _ _ _ _ => rfl) fx_no)) (fx_cnd (fx_cnd (fun _ _ _ _ _ _ _ _ => rfl) fx_no) (fx_cnd (fx_cnd (fun _ _ _ _ _ _ _ _ => rfl) fx_no) (fx_cnd (fun _ _ _ _ _ _ _ _ => rfl) fx_no))))
theorem fk_233_5 (X : ez_X) (pc : Nat) : fx_ok X (ft_233_5 X pc) (ez_t233_5 pc) := by
  delta ft_233_5 ez_t233_5
  exact fx_cnd (fk_233_3 X pc) (fk_233_4 X pc)
theorem fk_233 (X : ez_X) (pc : Nat) : fx_ok X (ft_233 X pc) (ez_t233 pc) := by
  delta ft_233 ez_t233
  exact fx_cnd (fk_233_2 X pc) (fk_233_5 X pc)
theorem fk_234_0 (X : ez_X) (pc : Nat) : fx_ok X (ft_234_0 X pc) (ez_t234_0 pc) := by
  delta ft_234_0 ez_t234_0
  exact fx_cnd (fx_cnd (fx_cnd (fx_cnd (fun _ _ _ _ _ _ _ _ => rfl) fx_no) (fx_cnd (fun _ _ _ _ _ _ _ _ => rfl) fx_no)) (fx_cnd (fx_cnd (fun _ _ _ _ _ _ _ _ => rfl) fx_no) (fx_cnd (fx_cnd (fun _ _ _ _ _ _ _ _ => rfl) fx_no) (fx_cnd (fun _ _ _ _ _ _ _ _ => rfl) fx_no)))) (fx_cnd (fx_cnd (fx_cnd (fun _ _ _ _ _ _ _ _ => rfl) fx_no) (fx_cnd (fun _ _ _ _ _ _ _ _ => rfl) fx_no)) (fx_cnd (fx_cnd (fun _ _ _ _ _ _ _ _ => rfl) fx_no) (fx_cnd (fx_cnd (fun _ _ _ _ _ _ _ _ => rfl) fx_no) (fx_cnd (fun _ _ _ _ _ _ _ _ => rfl) fx_no))))
theorem fk_234_1 (X : ez_X) (pc : Nat) : fx_ok X (ft_234_1 X pc) (ez_t234_1 pc) := by
  delta ft_234_1 ez_t234_1
  exact fx_cnd (fx_cnd (fx_cnd (fx_cnd (fun _ _ _ _ _ _ _ _ => rfl) fx_no) (fx_cnd (fun _ _ _ _ _ _ _ _ => rfl) fx_no)) (fx_cnd (fx_cnd (fun _ _ _ _ _ _ _ _ => rfl) fx_no) (fx_cnd (fx_cnd (fun _ _ _ _ _ _ _ _ => rfl) fx_no) (fx_cnd (fun _ _ _ _ _ _ _ _ => rfl) fx_no)))) (fx_cnd (fx_cnd (fx_cnd (fun _ _ _ _ _ _ _ _ => rfl) fx_no) (fx_cnd (fx_cnd (fun _ _ _ _ _ _ _ _ => rfl) fx_no) (fx_cnd (fun _ _ _ _ _ _ _ _ => rfl) fx_no))) (fx_cnd (fx_cnd (fun _ _ _ _ _ _ _ _ => rfl) fx_no) (fx_cnd (fx_cnd (fun _ _ _ _ _ _ _ _ => rfl) fx_no) (fx_cnd (fun _ _ _ _ _ _ _ _ => rfl) fx_no))))
theorem fk_234_2 (X : ez_X) (pc : Nat) : fx_ok X (ft_234_2 X pc) (ez_t234_2 pc) := by
  delta ft_234_2 ez_t234_2
  exact fx_cnd (fk_234_0 X pc) (fk_234_1 X pc)
theorem fk_234_3 (X : ez_X) (pc : Nat) : fx_ok X (ft_234_3 X pc) (ez_t234_3 pc) := by
  delta ft_234_3 ez_t234_3
  exact fx_cnd (fx_cnd (fx_cnd (fx_cnd (fun _ _ _ _ _ _ _ _ => rfl) fx_no) (fx_cnd (fun _ _ _ _ _ _ _ _ => rfl) fx_no)) (fx_cnd (fx_cnd (fun _ _ _ _ _ _ _ _ => rfl) fx_no) (fx_cnd (fx_cnd (fun _ _ _ _ _ _ _ _ => rfl) fx_no) (fx_cnd (fun _ _ _ _ _ _ _ _ => rfl) fx_no)))) (fx_cnd (fx_cnd (fx_cnd (fun _ _ _ _ _ _ _ _ => rfl) fx_no) (fx_cnd (fun _ _ _ _ _ _ _ _ => rfl) fx_no)) (fx_cnd (fx_cnd (fun _ _ _ _ _ _ _ _ => rfl) fx_no) (fx_cnd (fx_cnd (fun _ _ _ _ _ _ _ _ => rfl) fx_no) (fx_cnd (fun _ _ _ _ _ _ _ _ => rfl) fx_no))))
theorem fk_234_4 (X : ez_X) (pc : Nat) : fx_ok X (ft_234_4 X pc) (ez_t234_4 pc) := by
  delta ft_234_4 ez_t234_4
  exact fx_cnd (fx_cnd (fx_cnd (fx_cnd (fun _ _ _ _ _ _ _ _ => rfl) fx_no) (fx_cnd (fun _ _ _ _ _ _ _ _ => rfl) fx_no)) (fx_cnd (fx_cnd (fun _ _ _ _ _ _ _ _ => rfl) fx_no) (fx_cnd (fx_cnd (fun _ _ _ _ _ _ _ _ => rfl) fx_no) (fx_cnd (fun _ _ _ _ _ _ _ _ => rfl) fx_no)))) (fx_cnd (fx_cnd (fx_cnd (fun _ _ _ _ _ _ _ _ => rfl) fx_no) (fx_cnd (fx_cnd (fun _ _ _ _ _ _ _ _ => rfl) fx_no) (fx_cnd (fun _ _ _ _ _ _ _ _ => rfl) fx_no))) (fx_cnd (fx_cnd (fun _ _ _ _ _ _ _ _ => rfl) fx_no) (fx_cnd (fx_cnd (fun _ _ _ _ _ _ _ _ => rfl) fx_no) (fx_cnd (fun _ _ _ _ _ _ _ _ => rfl) fx_no))))
theorem fk_234_5 (X : ez_X) (pc : Nat) : fx_ok X (ft_234_5 X pc) (ez_t234_5 pc) := by
  delta ft_234_5 ez_t234_5
  exact fx_cnd (fk_234_3 X pc) (fk_234_4 X pc)
theorem fk_234 (X : ez_X) (pc : Nat) : fx_ok X (ft_234 X pc) (ez_t234 pc) := by
  delta ft_234 ez_t234
  exact fx_cnd (fk_234_2 X pc) (fk_234_5 X pc)
theorem fk_235_0 (X : ez_X) (pc : Nat) : fx_ok X (ft_235_0 X pc) (ez_t235_0 pc) := by
  delta ft_235_0 ez_t235_0
  exact fx_cnd (fx_cnd (fx_cnd (fx_cnd (fun _ _ _ _ _ _ _ _ => rfl) fx_no) (fx_cnd (fx_cnd (fun _ _ _ _ _ _ _ _ => rfl) fx_no) (fx_cnd (fun _ _ _ _ _ _ _ _ => rfl) fx_no))) (fx_cnd (fx_cnd (fun _ _ _ _ _ _ _ _ => rfl) fx_no) (fx_cnd (fx_cnd (fun _ _ _ _ _ _ _ _ => rfl) fx_no) (fx_cnd (fun _ _ _ _ _ _ _ _ => rfl) fx_no)))) (fx_cnd (fx_cnd (fx_cnd (fun _ _ _ _ _ _ _ _ => rfl) fx_no) (fx_cnd (fx_cnd (fun _ _ _ _ _ _ _ _ => rfl) fx_no) (fx_cnd (fun _ _ _ _ _ _ _ _ => rfl) fx_no))) (fx_cnd (fx_cnd (fun _ _ _ _ _ _ _ _ => rfl) fx_no) (fx_cnd (fx_cnd (fun _ _ _ _ _ _ _ _ => rfl) fx_no) (fx_cnd (fun _ _ _ _ _ _ _ _ => rfl) fx_no))))
theorem fk_235_1 (X : ez_X) (pc : Nat) : fx_ok X (ft_235_1 X pc) (ez_t235_1 pc) := by
  delta ft_235_1 ez_t235_1
  exact fx_cnd (fx_cnd (fx_cnd (fx_cnd (fun _ _ _ _ _ _ _ _ => rfl) fx_no) (fx_cnd (fx_cnd (fun _ _ _ _ _ _ _ _ => rfl) fx_no) (fx_cnd (fun _ _ _ _ _ _ _ _ => rfl) fx_no))) (fx_cnd (fx_cnd (fun _ _ _ _ _ _ _ _ => rfl) fx_no) (fx_cnd (fx_cnd (fun _ _ _ _ _ _ _ _ => rfl) fx_no) (fx_cnd (fun _ _ _ _ _ _ _ _ => rfl) fx_no)))) (fx_cnd (fx_cnd (fx_cnd (fun _ _ _ _ _ _ _ _ => rfl) fx_no) (fx_cnd (fx_cnd (fun _ _ _ _ _ _ _ _ => rfl) fx_no) (fx_cnd (fun _ _ _ _ _ _ _ _ => rfl) fx_no))) (fx_cnd (fx_cnd (fun _ _ _ _ _ _ _ _ => rfl) fx_no) (fx_cnd (fx_cnd (fun _ _ _ _ _ _ _ _ => rfl) fx_no) (fx_cnd (fun _ _ _ _ _ _ _ _ => rfl) fx_no))))
theorem fk_235_2 (X : ez_X) (pc : Nat) : fx_ok X (ft_235_2 X pc) (ez_t235_2 pc) := by
  delta ft_235_2 ez_t235_2
  exact fx_cnd (fk_235_0 X pc) (fk_235_1 X pc)
theorem fk_235_3 (X : ez_X) (pc : Nat) : fx_ok X (ft_235_3 X pc) (ez_t235_3 pc) := by
  delta ft_235_3 ez_t235_3
  exact fx_cnd (fx_cnd (fx_cnd (fx_cnd (fun _ _ _ _ _ _ _ _ => rfl) fx_no) (fx_cnd (fx_cnd (fun _ _ _ _ _ _ _ _ => rfl) fx_no) (fx_cnd (fun _ _ _ _ _ _ _ _ => rfl) fx_no))) (fx_cnd (fx_cnd (fun _ _ _ _ _ _ _ _ => rfl) fx_no) (fx_cnd (fx_cnd (fun _ _ _ _ _ _ _ _ => rfl) fx_no) (fx_cnd (fun _ _ _ _ _ _ _ _ => rfl) fx_no)))) (fx_cnd (fx_cnd (fx_cnd (fun _ _ _ _ _ _ _ _ => rfl) fx_no) (fx_cnd (fx_cnd (fun _ _ _ _ _ _ _ _ => rfl) fx_no) (fx_cnd (fun _ _ _ _ _ _ _ _ => rfl) fx_no))) (fx_cnd (fx_cnd (fun _ _ _ _ _ _ _ _ => rfl) fx_no) (fx_cnd (fx_cnd (fun _ _ _ _ _ _ _ _ => rfl) fx_no) (fx_cnd (fun _ _ _ _ _ _ _ _ => rfl) fx_no))))
theorem fk_235_4 (X : ez_X) (pc : Nat) : fx_ok X (ft_235_4 X pc) (ez_t235_4 pc) := by
  delta ft_235_4 ez_t235_4
  exact fx_cnd (fx_cnd (fx_cnd (fx_cnd (fun _ _ _ _ _ _ _ _ => rfl) fx_no) (fx_cnd (fx_cnd (fun _ _ _ _ _ _ _ _ => rfl) fx_no) (fx_cnd (fun _ _ _ _ _ _ _ _ => rfl) fx_no))) (fx_cnd (fx_cnd (fun _ _ _ _ _ _ _ _ => rfl) fx_no) (fx_cnd (fx_cnd (fun _ _ _ _ _ _ _ _ => rfl) fx_no) (fx_cnd (fun _ _ _ _ _ _ _ _ => rfl) fx_no)))) (fx_cnd (fx_cnd (fx_cnd (fun _ _ _ _ _ _ _ _ => rfl) fx_no) (fx_cnd (fx_cnd (fun _ _ _ _ _ _ _ _ => rfl) fx_no) (fx_cnd (fun _ _ _ _ _ _ _ _ => rfl) fx_no))) (fx_cnd (fx_cnd (fun _ _ _ _ _ _ _ _ => rfl) fx_no) (fx_cnd (fx_cnd (fun _ _ _ _ _ _ _ _ => rfl) fx_no) (fx_cnd (fun _ _ _ _ _ _ _ _ => rfl) fx_no))))
theorem fk_235_5 (X : ez_X) (pc : Nat) : fx_ok X (ft_235_5 X pc) (ez_t235_5 pc) := by
  delta ft_235_5 ez_t235_5
  exact fx_cnd (fk_235_3 X pc) (fk_235_4 X pc)
theorem fk_235 (X : ez_X) (pc : Nat) : fx_ok X (ft_235 X pc) (ez_t235 pc) := by
  delta ft_235 ez_t235
  exact fx_cnd (fk_235_2 X pc) (fk_235_5 X pc)
theorem fk_236_0 (X : ez_X) (pc : Nat) : fx_ok X (ft_236_0 X pc) (ez_t236_0 pc) := by
  delta ft_236_0 ez_t236_0
  exact fx_cnd (fx_cnd (fx_cnd (fun _ _ _ _ _ _ _ _ => rfl) fx_no) (fx_cnd (fx_cnd (fun _ _ _ _ _ _ _ _ => rfl) fx_no) (fx_cnd (fun _ _ _ _ _ _ _ _ => rfl) fx_no))) (fx_cnd (fx_cnd (fun _ _ _ _ _ _ _ _ => rfl) fx_no) (fx_cnd (fx_cnd (fun _ _ _ _ _ _ _ _ => rfl) fx_no) (fx_cnd (fun _ _ _ _ _ _ _ _ => rfl) fx_no)))
theorem fk_236_1 (X : ez_X) (pc : Nat) : fx_ok X (ft_236_1 X pc) (ez_t236_1 pc) := by
  delta ft_236_1 ez_t236_1
  exact fx_cnd (fx_cnd (fx_cnd (fun _ _ _ _ _ _ _ _ => rfl) fx_no) (fx_cnd (fx_cnd (fun _ _ _ _ _ _ _ _ => rfl) fx_no) (fx_cnd (fun _ _ _ _ _ _ _ _ => rfl) fx_no))) (fx_cnd (fx_cnd (fx_cnd (fun _ _ _ _ _ _ _ _ => rfl) fx_no) (fx_cnd (fun _ _ _ _ _ _ _ _ => rfl) fx_no)) (fx_cnd (fx_cnd (fun _ _ _ _ _ _ _ _ => rfl) fx_no) (fx_cnd (fun _ _ _ _ _ _ _ _ => rfl) fx_no)))
theorem fk_236_2 (X : ez_X) (pc : Nat) : fx_ok X (ft_236_2 X pc) (ez_t236_2 pc) := by
  delta ft_236_2 ez_t236_2
  exact fx_cnd (fk_236_0 X pc) (fk_236_1 X pc)
theorem fk_236_3 (X : ez_X) (pc : Nat) : fx_ok X (ft_236_3 X pc) (ez_t236_3 pc) := by
  delta ft_236_3 ez_t236_3
  exact fx_cnd (fx_cnd (fx_cnd (fun _ _ _ _ _ _ _ _ => rfl) fx_no) (fx_cnd (fx_cnd (fun _ _ _ _ _ _ _ _ => rfl) fx_no) (fx_cnd (fun _ _ _ _ _ _ _ _ => rfl) fx_no))) (fx_cnd (fx_cnd (fx_cnd (fun _ _ _ _ _ _ _ _ => rfl) fx_no) (fx_cnd (fun _ _ _ _ _ _ _ _ => rfl) fx_no)) (fx_cnd (fx_cnd (fun _ _ _ _ _ _ _ _ => rfl) fx_no) (fx_cnd (fun _ _ _ _ _ _ _ _ => rfl) fx_no)))
theorem fk_236_4 (X : ez_X) (pc : Nat) : fx_ok X (ft_236_4 X pc) (ez_t236_4 pc) := by
  delta ft_236_4 ez_t236_4
  exact fx_cnd (fx_cnd (fx_cnd (fun _ _ _ _ _ _ _ _ => rfl) fx_no) (fx_cnd (fx_cnd (fun _ _ _ _ _ _ _ _ => rfl) fx_no) (fx_cnd (fun _ _ _ _ _ _ _ _ => rfl) fx_no))) (fx_cnd (fx_cnd (fx_cnd (fun _ _ _ _ _ _ _ _ => rfl) fx_no) (fx_cnd (fun _ _ _ _ _ _ _ _ => rfl) fx_no)) (fx_cnd (fx_cnd (fun _ _ _ _ _ _ _ _ => rfl) fx_no) (fx_cnd (fun _ _ _ _ _ _ _ _ => rfl) fx_no)))
theorem fk_236_5 (X : ez_X) (pc : Nat) : fx_ok X (ft_236_5 X pc) (ez_t236_5 pc) := by
  delta ft_236_5 ez_t236_5
  exact fx_cnd (fk_236_3 X pc) (fk_236_4 X pc)
theorem fk_236_6 (X : ez_X) (pc : Nat) : fx_ok X (ft_236_6 X pc) (ez_t236_6 pc) := by
  delta ft_236_6 ez_t236_6
  exact fx_cnd (fk_236_2 X pc) (fk_236_5 X pc)
theorem fk_236_7 (X : ez_X) (pc : Nat) : fx_ok X (ft_236_7 X pc) (ez_t236_7 pc) := by
  delta ft_236_7 ez_t236_7
  exact fx_cnd (fx_cnd (fx_cnd (fun _ _ _ _ _ _ _ _ => rfl) fx_no) (fx_cnd (fx_cnd (fun _ _ _ _ _ _ _ _ => rfl) fx_no) (fx_cnd (fun _ _ _ _ _ _ _ _ => rfl) fx_no))) (fx_cnd (fx_cnd (fun _ _ _ _ _ _ _ _ => rfl) fx_no) (fx_cnd (fx_cnd (fun _ _ _ _ _ _ _ _ => rfl) fx_no) (fx_cnd (fun _ _ _ _ _ _ _ _ => rfl) fx_no)))
theorem fk_236_8 (X : ez_X) (pc : Nat) : fx_ok X (ft_236_8 X pc) (ez_t236_8 pc) := by
  delta ft_236_8 ez_t236_8
  exact fx_cnd (fx_cnd (fx_cnd (fun _ _ _ _ _ _ _ _ => rfl) fx_no) (fx_cnd (fx_cnd (fun _ _ _ _ _ _ _ _ => rfl) fx_no) (fx_cnd (fun _ _ _ _ _ _ _ _ => rfl) fx_no))) (fx_cnd (fx_cnd (fx_cnd (fun _ _ _ _ _ _ _ _ => rfl) fx_no) (fx_cnd (fun _ _ _ _ _ _ _ _ => rfl) fx_no)) (fx_cnd (fx_cnd (fun _ _ _ _ _ _ _ _ => rfl) fx_no) (fx_cnd (fun _ _ _ _ _ _ _ _ => rfl) fx_no)))
theorem fk_236_9 (X : ez_X) (pc : Nat) : fx_ok X (ft_236_9 X pc) (ez_t236_9 pc) := by
  delta ft_236_9 ez_t236_9
  exact fx_cnd (fk_236_7 X pc) (fk_236_8 X pc)
theorem fk_236_10 (X : ez_X) (pc : Nat) : fx_ok X (ft_236_10 X pc) (ez_t236_10 pc) := by
  delta ft_236_10 ez_t236_10
  exact fx_cnd (fx_cnd (fx_cnd (fun _ _ _ _ _ _ _ _ => rfl) fx_no) (fx_cnd (fx_cnd (fun _ _ _ _ _ _ _ _ => rfl) fx_no) (fx_cnd (fun _ _ _ _ _ _ _ _ => rfl) fx_no))) (fx_cnd (fx_cnd (fx_cnd (fun _ _ _ _ _ _ _ _ => rfl) fx_no) (fx_cnd (fun _ _ _ _ _ _ _ _ => rfl) fx_no)) (fx_cnd (fx_cnd (fun _ _ _ _ _ _ _ _ => rfl) fx_no) (fx_cnd (fun _ _ _ _ _ _ _ _ => rfl) fx_no)))
theorem fk_236_11 (X : ez_X) (pc : Nat) : fx_ok X (ft_236_11 X pc) (ez_t236_11 pc) := by
  delta ft_236_11 ez_t236_11
  exact fx_cnd (fx_cnd (fx_cnd (fun _ _ _ _ _ _ _ _ => rfl) fx_no) (fx_cnd (fx_cnd (fun _ _ _ _ _ _ _ _ => rfl) fx_no) (fx_cnd (fun _ _ _ _ _ _ _ _ => rfl) fx_no))) (fx_cnd (fx_cnd (fx_cnd (fun _ _ _ _ _ _ _ _ => rfl) fx_no) (fx_cnd (fun _ _ _ _ _ _ _ _ => rfl) fx_no)) (fx_cnd (fx_cnd (fun _ _ _ _ _ _ _ _ => rfl) fx_no) (fx_cnd (fun _ _ _ _ _ _ _ _ => rfl) fx_no)))
theorem fk_236_12 (X : ez_X) (pc : Nat) : fx_ok X (ft_236_12 X pc) (ez_t236_12 pc) := by
  delta ft_236_12 ez_t236_12
  exact fx_cnd (fk_236_10 X pc) (fk_236_11 X pc)
theorem fk_236_13 (X : ez_X) (pc : Nat) : fx_ok X (ft_236_13 X pc) (ez_t236_13 pc) := by
  delta ft_236_13 ez_t236_13
  exact fx_cnd (fk_236_9 X pc) (fk_236_12 X pc)
theorem fk_236 (X : ez_X) (pc : Nat) : fx_ok X (ft_236 X pc) (ez_t236 pc) := by
  delta ft_236 ez_t236
  exact fx_cnd (fk_236_6 X pc) (fk_236_13 X pc)
theorem fk_237_0 (X : ez_X) (pc : Nat) : fx_ok X (ft_237_0 X pc) (ez_t237_0 pc) := by
  delta ft_237_0 ez_t237_0
  exact fx_cnd (fx_cnd (fx_cnd (fx_cnd (fun _ _ _ _ _ _ _ _ => rfl) fx_no) (fx_cnd (fx_cnd (fun _ _ _ _ _ _ _ _ => rfl) fx_no) (fx_cnd (fun _ _ _ _ _ _ _ _ => rfl) fx_no))) (fx_cnd (fx_cnd (fun _ _ _ _ _ _ _ _ => rfl) fx_no) (fx_cnd (fx_cnd (fun _ _ _ _ _ _ _ _ => rfl) fx_no) (fx_cnd (fun _ _ _ _ _ _ _ _ => rfl) fx_no)))) (fx_cnd (fx_cnd (fx_cnd (fun _ _ _ _ _ _ _ _ => rfl) fx_no) (fx_cnd (fx_cnd (fun _ _ _ _ _ _ _ _ => rfl) fx_no) (fx_cnd (fun _ _ _ _ _ _ _ _ => rfl) fx_no))) (fx_cnd (fx_cnd (fun _ _ _ _ _ _ _ _ => rfl) fx_no) (fx_cnd (fx_cnd (fun _ _ _ _ _ _ _ _ => rfl) fx_no) (fx_cnd (fun _ _ _ _ _ _ _ _ => rfl) fx_no))))
theorem fk_237_1 (X : ez_X) (pc : Nat) : fx_ok X (ft_237_1 X pc) (ez_t237_1 pc) := by
  delta ft_237_1 ez_t237_1
  exact fx_cnd (fx_cnd (fx_cnd (fx_cnd (fun _ _ _ _ _ _ _ _ => rfl) fx_no) (fx_cnd (fx_cnd (fun _ _ _ _ _ _ _ _ => rfl) fx_no) (fx_cnd (fun _ _ _ _ _ _ _ _ => rfl) fx_no))) (fx_cnd (fx_cnd (fun _ _ _ _ _ _ _ _ => rfl) fx_no) (fx_cnd (fx_cnd (fun _ _ _ _ _ _ _ _ => rfl) fx_no) (fx_cnd (fun _ _ _ _ _ _ _ _ => rfl) fx_no)))) (fx_cnd (fx_cnd (fx_cnd (fun _ _ _ _ _ _ _ _ => rfl) fx_no) (fx_cnd (fx_cnd (fun _ _ _ _ _ _ _ _ => rfl) fx_no) (fx_cnd (fun _ _ _ _ _ _ _ _ => rfl) fx_no))) (fx_cnd (fx_cnd (fun _ _ _ _ _ _ _ _ => rfl) fx_no) (fx_cnd (fx_cnd (fun _ _ _ _ _ _ _ _ => rfl) fx_no) (fx_cnd (fun _ _ _ _ _ _ _ _ => rfl) fx_no))))
theorem fk_237_2 (X : ez_X) (pc : Nat) : fx_ok X (ft_237_2 X pc) (ez_t237_2 pc) := by
  delta ft_237_2 ez_t237_2
  exact fx_cnd (fk_237_0 X pc) (fk_237_1 X pc)
theorem fk_237_3 (X : ez_X) (pc : Nat) : fx_ok X (ft_237_3 X pc) (ez_t237_3 pc) := by
  delta ft_237_3 ez_t237_3
  exact fx_cnd (fx_cnd (fx_cnd (fx_cnd (fun _ _ _ _ _ _ _ _ => rfl) fx_no) (fx_cnd (fx_cnd (fun _ _ _ _ _ _ _ _ => rfl) fx_no) (fx_cnd (fun _ _ _ _ _ _ _ _ => rfl) fx_no))) (fx_cnd (fx_cnd (fun _ _ _ _ _ _ _ _ => rfl) fx_no) (fx_cnd (fx_cnd (fun _ _ _ _ _ _ _ _ => rfl) fx_no) (fx_cnd (fun _ _ _ _ _ _ _ _ => rfl) fx_no)))) (fx_cnd (fx_cnd (fx_cnd (fun _ _ _ _ _ _ _ _ => rfl) fx_no) (fx_cnd (fx_cnd (fun _ _ _ _ _ _ _ _ => rfl) fx_no) (fx_cnd (fun _ _ _ _ _ _ _ _ => rfl) fx_no))) (fx_cnd (fx_cnd (fun _ _ _ _ _ _ _ _ => rfl) fx_no) (fx_cnd (fx_cnd (fun _ _ _ _ _ _ _ _ => rfl) fx_no) (fx_cnd (fun _ _ _ _ _ _ _ _ => rfl) fx_no))))
theorem fk_237_4 (X : ez_X) (pc : Nat) : fx_ok X (ft_237_4 X pc) (ez_t237_4 pc) := by
  delta ft_237_4 ez_t237_4
  exact fx_cnd (fx_cnd (fx_cnd (fun _ _ _ _ _ _ _ _ => rfl) fx_no) (fx_cnd (fx_cnd (fun _ _ _ _ _ _ _ _ => rfl) fx_no) (fx_cnd (fun _ _ _ _ _ _ _ _ => rfl) fx_no))) (fx_cnd (fx_cnd (fun _ _ _ _ _ _ _ _ => rfl) fx_no) (fx_cnd (fx_cnd (fun _ _ _ _ _ _ _ _ => rfl) fx_no) (fx_cnd (fun _ _ _ _ _ _ _ _ => rfl) fx_no)))
theorem fk_237_5 (X : ez_X) (pc : Nat) : fx_ok X (ft_237_5 X pc) (ez_t237_5 pc) := by
  delta ft_237_5 ez_t237_5
  exact fx_cnd (fx_cnd (fx_cnd (fun _ _ _ _ _ _ _ _ => rfl) fx_no) (fx_cnd (fx_cnd (fun _ _ _ _ _ _ _ _ => rfl) fx_no) (fx_cnd (fun _ _ _ _ _ _ _ _ => rfl) fx_no))) (fx_cnd (fx_cnd (fx_cnd (fun _ _ _ _ _ _ _ _ => rfl) fx_no) (fx_cnd (fun _ _ _ _ _ _ _ _ => rfl) fx_no)) (fx_cnd (fx_cnd (fun _ _ _ _ _ _ _ _ => rfl) fx_no) (fx_cnd (fun _ _ _ _ _ _ _ _ => rfl) fx_no)))
theorem fk_237_6 (X : ez_X) (pc : Nat) : fx_ok X (ft_237_6 X pc) (ez_t237_6 pc) := by
  delta ft_237_6 ez_t237_6
  exact fx_cnd (fk_237_4 X pc) (fk_237_5 X pc)
theorem fk_237_7 (X : ez_X) (pc : Nat) : fx_ok X (ft_237_7 X pc) (ez_t237_7 pc) := by
  delta ft_237_7 ez_t237_7
  exact fx_cnd (fk_237_3 X pc) (fk_237_6 X pc)
theorem fk_237 (X : ez_X) (pc : Nat) : fx_ok X (ft_237 X pc) (ez_t237 pc) := by
  delta ft_237 ez_t237
  exact fx_cnd (fk_237_2 X pc) (fk_237_7 X pc)
theorem fk_238_0 (X : ez_X) (pc : Nat) : fx_ok X (ft_238_0 X pc) (ez_t238_0 pc) := by
  delta ft_238_0 ez_t238_0
  exact fx_cnd (fx_cnd (fx_cnd (fx_cnd (fun _ _ _ _ _ _ _ _ => rfl) fx_no) (fx_cnd (fun _ _ _ _ _ _ _ _ => rfl) fx_no)) (fx_cnd (fx_cnd (fun _ _ _ _ _ _ _ _ => rfl) fx_no) (fx_cnd (fun _ _ _ _ _ _ _ _ => rfl) fx_no))) (fx_cnd (fx_cnd (fx_cnd (fun _ _ _ _ _ _ _ _ => rfl) fx_no) (fx_cnd (fun _ _ _ _ _ _ _ _ => rfl) fx_no)) (fx_cnd (fx_cnd (fun _ _ _ _ _ _ _ _ => rfl) fx_no) (fx_cnd (fun _ _ _ _ _ _ _ _ => rfl) fx_no)))
theorem fk_238_1 (X : ez_X) (pc : Nat) : fx_ok X (ft_238_1 X pc) (ez_t238_1 pc) := by
  delta ft_238_1 ez_t238_1
  exact fx_cnd (fx_cnd (fx_cnd (fx_cnd (fun _ _ _ _ _ _ _ _ => rfl) fx_no) (fx_cnd (fun _ _ _ _ _ _ _ _ => rfl) fx_no)) (fx_cnd (fx_cnd (fun _ _ _ _ _ _ _ _ => rfl) fx_no) (fx_cnd (fun _ _ _ _ _ _ _ _ => rfl) fx_no))) (fx_cnd (fx_cnd (fx_cnd (fun _ _ _ _ _ _ _ _ => rfl) fx_no) (fx_cnd (fun _ _ _ _ _ _ _ _ => rfl) fx_no)) (fx_cnd (fx_cnd (fun _ _ _ _ _ _ _ _ => rfl) fx_no) (fx_cnd (fun _ _ _ _ _ _ _ _ => rfl) fx_no)))
theorem fk_238 (X : ez_X) (pc : Nat) : fx_ok X (ft_238 X pc) (ez_t238 pc) := by
  delta ft_238 ez_t238
  exact fx_cnd (fk_238_0 X pc) (fk_238_1 X pc)
theorem fk_239_0 (X : ez_X) (pc : Nat) : fx_ok X (ft_239_0 X pc) (ez_t239_0 pc) := by
  delta ft_239_0 ez_t239_0
  exact fx_cnd (fx_cnd (fx_cnd (fx_cnd (fun _ _ _ _ _ _ _ _ => rfl) fx_no) (fx_cnd (fun _ _ _ _ _ _ _ _ => rfl) fx_no)) (fx_cnd (fx_cnd (fun _ _ _ _ _ _ _ _ => rfl) fx_no) (fx_cnd (fun _ _ _ _ _ _ _ _ => rfl) fx_no))) (fx_cnd (fx_cnd (fx_cnd (fun _ _ _ _ _ _ _ _ => rfl) fx_no) (fx_cnd (fun _ _ _ _ _ _ _ _ => rfl) fx_no)) (fx_cnd (fx_cnd (fun _ _ _ _ _ _ _ _ => rfl) fx_no) (fx_cnd (fun _ _ _ _ _ _ _ _ => rfl) fx_no)))
theorem fk_239_1 (X : ez_X) (pc : Nat) : fx_ok X (ft_239_1 X pc) (ez_t239_1 pc) := by
  delta ft_239_1 ez_t239_1
  exact fx_cnd (fx_cnd (fx_cnd (fx_cnd (fun _ _ _ _ _ _ _ _ => rfl) fx_no) (fx_cnd (fun _ _ _ _ _ _ _ _ => rfl) fx_no)) (fx_cnd (fx_cnd (fun _ _ _ _ _ _ _ _ => rfl) fx_no) (fx_cnd (fun _ _ _ _ _ _ _ _ => rfl) fx_no))) (fx_cnd (fx_cnd (fx_cnd (fun _ _ _ _ _ _ _ _ => rfl) fx_no) (fx_cnd (fun _ _ _ _ _ _ _ _ => rfl) fx_no)) (fx_cnd (fx_cnd (fun _ _ _ _ _ _ _ _ => rfl) fx_no) (fx_cnd (fun _ _ _ _ _ _ _ _ => rfl) fx_no)))
theorem fk_239 (X : ez_X) (pc : Nat) : fx_ok X (ft_239 X pc) (ez_t239 pc) := by
  delta ft_239 ez_t239
  exact fx_cnd (fk_239_0 X pc) (fk_239_1 X pc)
theorem fk_240_0 (X : ez_X) (pc : Nat) : fx_ok X (ft_240_0 X pc) (ez_t240_0 pc) := by
  delta ft_240_0 ez_t240_0
  exact fx_cnd (fx_cnd (fx_cnd (fx_cnd (fun _ _ _ _ _ _ _ _ => rfl) fx_no) (fx_cnd (fun _ _ _ _ _ _ _ _ => rfl) fx_no)) (fx_cnd (fx_cnd (fun _ _ _ _ _ _ _ _ => rfl) fx_no) (fx_cnd (fun _ _ _ _ _ _ _ _ => rfl) fx_no))) (fx_cnd (fx_cnd (fx_cnd (fun _ _ _ _ _ _ _ _ => rfl) fx_no) (fx_cnd (fun _ _ _ _ _ _ _ _ => rfl) fx_no)) (fx_cnd (fx_cnd (fun _ _ _ _ _ _ _ _ => rfl) fx_no) (fx_cnd (fun _ _ _ _ _ _ _ _ => rfl) fx_no)))
theorem fk_240_1 (X : ez_X) (pc : Nat) : fx_ok X (ft_240_1 X pc) (ez_t240_1 pc) := by
  delta ft_240_1 ez_t240_1
  exact fx_cnd (fx_cnd (fx_cnd (fx_cnd (fun _ _ _ _ _ _ _ _ => rfl) fx_no) (fx_cnd (fun _ _ _ _ _ _ _ _ => rfl) fx_no)) (fx_cnd (fx_cnd (fun _ _ _ _ _ _ _ _ => rfl) fx_no) (fx_cnd (fun _ _ _ _ _ _ _ _ => rfl) fx_no))) (fx_cnd (fx_cnd (fx_cnd (fun _ _ _ _ _ _ _ _ => rfl) fx_no) (fx_cnd (fun _ _ _ _ _ _ _ _ => rfl) fx_no)) (fx_cnd (fx_cnd (fun _ _ _ _ _ _ _ _ => rfl) fx_no) (fx_cnd (fun _ _ _ _ _ _ _ _ => rfl) fx_no)))
theorem fk_240 (X : ez_X) (pc : Nat) : fx_ok X (ft_240 X pc) (ez_t240 pc) := by
  delta ft_240 ez_t240
  exact fx_cnd (fk_240_0 X pc) (fk_240_1 X pc)
theorem fk_241_0 (X : ez_X) (pc : Nat) : fx_ok X (ft_241_0 X pc) (ez_t241_0 pc) := by
  delta ft_241_0 ez_t241_0
  exact fx_cnd (fx_cnd (fx_cnd (fx_cnd (fun _ _ _ _ _ _ _ _ => rfl) fx_no) (fx_cnd (fun _ _ _ _ _ _ _ _ => rfl) fx_no)) (fx_cnd (fx_cnd (fun _ _ _ _ _ _ _ _ => rfl) fx_no) (fx_cnd (fx_cnd (fun _ _ _ _ _ _ _ _ => rfl) fx_no) (fx_cnd (fun _ _ _ _ _ _ _ _ => rfl) fx_no)))) (fx_cnd (fx_cnd (fx_cnd (fun _ _ _ _ _ _ _ _ => rfl) fx_no) (fx_cnd (fun _ _ _ _ _ _ _ _ => rfl) fx_no)) (fx_cnd (fx_cnd (fun _ _ _ _ _ _ _ _ => rfl) fx_no) (fx_cnd (fx_cnd (fun _ _ _ _ _ _ _ _ => rfl) fx_no) (fx_cnd (fun _ _ _ _ _ _ _ _ => rfl) fx_no))))
theorem fk_241_1 (X : ez_X) (pc : Nat) : fx_ok X (ft_241_1 X pc) (ez_t241_1 pc) := by
  delta ft_241_1 ez_t241_1
  exact fx_cnd (fx_cnd (fx_cnd (fx_cnd (fun _ _ _ _ _ _ _ _ => rfl) fx_no) (fx_cnd (fun _ _ _ _ _ _ _ _ => rfl) fx_no)) (fx_cnd (fx_cnd (fun _ _ _ _ _ _ _ _ => rfl) fx_no) (fx_cnd (fx_cnd (fun _ _ _ _ _ _ _ _ => rfl) fx_no) (fx_cnd (fun _ _ _ _ _ _ _ _ => rfl) fx_no)))) (fx_cnd (fx_cnd (fx_cnd (fun _ _ _ _ _ _ _ _ => rfl) fx_no) (fx_cnd (fx_cnd (fun _ _ _ _ _ _ _ _ => rfl) fx_no) (fx_cnd (fun _ _ _ _ _ _ _ _ => rfl) fx_no))) (fx_cnd (fx_cnd (fun _ _ _ _ _ _ _ _ => rfl) fx_no) (fx_cnd (fx_cnd (fun _ _ _ _ _ _ _ _ => rfl) fx_no) (fx_cnd (fun _ _ _ _ _ _ _ _ => rfl) fx_no))))
theorem fk_241_2 (X : ez_X) (pc : Nat) : fx_ok X (ft_241_2 X pc) (ez_t241_2 pc) := by
  delta ft_241_2 ez_t241_2
  exact fx_cnd (fk_241_0 X pc) (fk_241_1 X pc)
theorem fk_241_3 (X : ez_X) (pc : Nat) : fx_ok X (ft_241_3 X pc) (ez_t241_3 pc) := by
  delta ft_241_3 ez_t241_3
  exact fx_cnd (fx_cnd (fx_cnd (fx_cnd (fun _ _ _ _ _ _ _ _ => rfl) fx_no) (fx_cnd (fun _ _ _ _ _ _ _ _ => rfl) fx_no)) (fx_cnd (fx_cnd (fun _ _ _ _ _ _ _ _ => rfl) fx_no) (fx_cnd (fx_cnd (fun _ _ _ _ _ _ _ _ => rfl) fx_no) (fx_cnd (fun _ _ _ _ _ _ _ _ => rfl) fx_no)))) (fx_cnd (fx_cnd (fx_cnd (fun _ _ _ _ _ _ _ _ => rfl) fx_no) (fx_cnd (fx_cnd (fun _ _ _ _ _ _ _ _ => rfl) fx_no) (fx_cnd (fun _ _ _ _ _ _ _ _ => rfl) fx_no))) (fx_cnd (fx_cnd (fun _ _ _ _ _ _ _ _ => rfl) fx_no) (fx_cnd (fx_cnd (fun _ _ _ _ _ _ _ _ => rfl) fx_no) (fx_cnd (fun _ _ _ _ _ _ _ _ => rfl) fx_no))))
theorem fk_241_4 (X : ez_X) (pc : Nat) : fx_ok X (ft_241_4 X pc) (ez_t241_4 pc) := by
  delta ft_241_4 ez_t241_4
  exact fx_cnd (fx_cnd (fx_cnd (fx_cnd (fun _ _ _ _ _ _ _ _ => rfl) fx_no) (fx_cnd (fun _ _ _ _ _ _ _ _ => rfl) fx_no)) (fx_cnd (fx_cnd (fun _ _ _ _ _ _ _ _ => rfl) fx_no) (fx_cnd (fx_cnd (fun _ _ _ _ _ _ _ _ => rfl) fx_no) (fx_cnd (fun _ _ _ _ _ _ _ _ => rfl) fx_no)))) (fx_cnd (fx_cnd (fx_cnd (fun _ _ _ _ _ _ _ _ => rfl) fx_no) (fx_cnd (fx_cnd (fun _ _ _ _ _ _ _ _ => rfl) fx_no) (fx_cnd (fun _ _ _ _ _ _ _ _ => rfl) fx_no))) (fx_cnd (fx_cnd (fun _ _ _ _ _ _ _ _ => rfl) fx_no) (fx_cnd (fx_cnd (fun _ _ _ _ _ _ _ _ => rfl) fx_no) (fx_cnd (fun _ _ _ _ _ _ _ _ => rfl) fx_no))))
theorem fk_241_5 (X : ez_X) (pc : Nat) : fx_ok X (ft_241_5 X pc) (ez_t241_5 pc) := by
  delta ft_241_5 ez_t241_5
  exact fx_cnd (fk_241_3 X pc) (fk_241_4 X pc)
theorem fk_241_6 (X : ez_X) (pc : Nat) : fx_ok X (ft_241_6 X pc) (ez_t241_6 pc) := by
  delta ft_241_6 ez_t241_6
  exact fx_cnd (fk_241_2 X pc) (fk_241_5 X pc)
theorem fk_241_7 (X : ez_X) (pc : Nat) : fx_ok X (ft_241_7 X pc) (ez_t241_7 pc) := by
  delta ft_241_7 ez_t241_7
  exact fx_cnd (fx_cnd (fx_cnd (fx_cnd (fun _ _ _ _ _ _ _ _ => rfl) fx_no) (fx_cnd (fun _ _ _ _ _ _ _ _ => rfl) fx_no)) (fx_cnd (fx_cnd (fun _ _ _ _ _ _ _ _ => rfl) fx_no) (fx_cnd (fx_cnd (fun _ _ _ _ _ _ _ _ => rfl) fx_no) (fx_cnd (fun _ _ _ _ _ _ _ _ => rfl) fx_no)))) (fx_cnd (fx_cnd (fx_cnd (fun _ _ _ _ _ _ _ _ => rfl) fx_no) (fx_cnd (fx_cnd (fun _ _ _ _ _ _ _ _ => rfl) fx_no) (fx_cnd (fun _ _ _ _ _ _ _ _ => rfl) fx_no))) (fx_cnd (fx_cnd (fun _ _ _ _ _ _ _ _ => rfl) fx_no) (fx_cnd (fx_cnd (fun _ _ _ _ _ _ _ _ => rfl) fx_no) (fx_cnd (fun _ _ _ _ _ _ _ _ => rfl) fx_no))))
theorem fk_241_8 (X : ez_X) (pc : Nat) : fx_ok X (ft_241_8 X pc) (ez_t241_8 pc) := by
  delta ft_241_8 ez_t241_8
  exact fx_cnd (fx_cnd (fx_cnd (fx_cnd (fun _ _ _ _ _ _ _ _ => rfl) fx_no) (fx_cnd (fun _ _ _ _ _ _ _ _ => rfl) fx_no)) (fx_cnd (fx_cnd (fun _ _ _ _ _ _ _ _ => rfl) fx_no) (fx_cnd (fx_cnd (fun _ _ _ _ _ _ _ _ => rfl) fx_no) (fx_cnd (fun _ _ _ _ _ _ _ _ => rfl) fx_no)))) (fx_cnd (fx_cnd (fx_cnd (fun _ _ _ _ _ _ _ _ => rfl) fx_no) (fx_cnd (fx_cnd (fun _ _ _ _ _ _ _ _ => rfl) fx_no) (fx_cnd (fun _ _ _ _ _ _ _ _ => rfl) fx_no))) (fx_cnd (fx_cnd (fun _ _ _ _ _ _ _ _ => rfl) fx_no) (fx_cnd (fx_cnd (fun _ _ _ _ _ _ _ _ => rfl) fx_no) (fx_cnd (fun _ _ _ _ _ _ _ _ => rfl) fx_no))))
theorem fk_241_9 (X : ez_X) (pc : Nat) : fx_ok X (ft_241_9 X pc) (ez_t241_9 pc) := by
  delta ft_241_9 ez_t241_9
  exact fx_cnd (fk_241_7 X pc) (fk_241_8 X pc)
theorem fk_241_10 (X : ez_X) (pc : Nat) : fx_ok X (ft_241_10 X pc) (ez_t241_10 pc) := by
  delta ft_241_10 ez_t241_10
  exact fx_cnd (fx_cnd (fx_cnd (fx_cnd (fun _ _ _ _ _ _ _ _ => rfl) fx_no) (fx_cnd (fun _ _ _ _ _ _ _ _ => rfl) fx_no)) (fx_cnd (fx_cnd (fun _ _ _ _ _ _ _ _ => rfl) fx_no) (fx_cnd (fx_cnd (fun _ _ _ _ _ _ _ _ => rfl) fx_no) (fx_cnd (fun _ _ _ _ _ _ _ _ => rfl) fx_no)))) (fx_cnd (fx_cnd (fx_cnd (fun _ _ _ _ _ _ _ _ => rfl) fx_no) (fx_cnd (fx_cnd (fun _ _ _ _ _ _ _ _ => rfl) fx_no) (fx_cnd (fun _ _ _ _ _ _ _ _ => rfl) fx_no))) (fx_cnd (fx_cnd (fun _ _ _ _ _ _ _ _ => rfl) fx_no) (fx_cnd (fx_cnd (fun _ _ _ _ _ _ _ _ => rfl) fx_no) (fx_cnd (fun _ _ _ _ _ _ _ _ => rfl) fx_no))))
theorem fk_241_11 (X : ez_X) (pc : Nat) : fx_ok X (ft_241_11 X pc) (ez_t241_11 pc) := by
  delta ft_241_11 ez_t241_11
  exact fx_cnd (fx_cnd (fx_cnd (fx_cnd (fun _ _ _ _ _ _ _ _ => rfl) fx_no) (fx_cnd (fun _ _ _ _ _ _ _ _ => rfl) fx_no)) (fx_cnd (fx_cnd (fun _ _ _ _ _ _ _ _ => rfl) fx_no) (fx_cnd (fx_cnd (fun _ _ _ _ _ _ _ _ => rfl) fx_no) (fx_cnd (fun _ _ _ _ _ _ _ _ => rfl) fx_no)))) (fx_cnd (fx_cnd (fx_cnd (fun _ _ _ _ _ _ _ _ => rfl) fx_no) (fx_cnd (fx_cnd (fun _ _ _ _ _ _ _ _ => rfl) fx_no) (fx_cnd (fun _ _ _ _ _ _ _ _ => rfl) fx_no))) (fx_cnd (fx_cnd (fun _ _ _ _ _ _ _ _ => rfl) fx_no) (fx_cnd (fx_cnd (fun _ _ _ _ _ _ _ _ => rfl) fx_no) (fx_cnd (fun _ _ _ _ _ _ _ _ => rfl) fx_no))))
theorem fk_241_12 (X : ez_X) (pc : Nat) : fx_ok X (ft_241_12 X pc) (ez_t241_12 pc) := by
  delta ft_241_12 ez_t241_12
  exact fx_cnd (fk_241_10 X pc) (fk_241_11 X pc)
theorem fk_241_13 (X : ez_X) (pc : Nat) : fx_ok X (ft_241_13 X pc) (ez_t241_13 pc) := by
  delta ft_241_13 ez_t241_13
  exact fx_cnd (fk_241_9 X pc) (fk_241_12 X pc)
theorem fk_241_14 (X : ez_X) (pc : Nat) : fx_ok X (ft_241_14 X pc) (ez_t241_14 pc) := by
  delta ft_241_14 ez_t241_14
  exact fx_cnd (fk_241_6 X pc) (fk_241_13 X pc)
theorem fk_241_15 (X : ez_X) (pc : Nat) : fx_ok X (ft_241_15 X pc) (ez_t241_15 pc) := by
  delta ft_241_15 ez_t241_15
  exact fx_cnd (fx_cnd (fx_cnd (fx_cnd (fun _ _ _ _ _ _ _ _ => rfl) fx_no) (fx_cnd (fun _ _ _ _ _ _ _ _ => rfl) fx_no)) (fx_cnd (fx_cnd (fun _ _ _ _ _ _ _ _ => rfl) fx_no) (fx_cnd (fx_cnd (fun _ _ _ _ _ _ _ _ => rfl) fx_no) (fx_cnd (fun _ _ _ _ _ _ _ _ => rfl) fx_no)))) (fx_cnd (fx_cnd (fx_cnd (fun _ _ _ _ _ _ _ _ => rfl) fx_no) (fx_cnd (fx_cnd (fun _ _ _ _ _ _ _ _ => rfl) fx_no) (fx_cnd (fun _ _ _ _ _ _ _ _ => rfl) fx_no))) (fx_cnd (fx_cnd (fun _ _ _ _ _ _ _ _ => rfl) fx_no) (fx_cnd (fx_cnd (fun _ _ _ _ _ _ _ _ => rfl) fx_no) (fx_cnd (fun _ _ _ _ _ _ _ _ => rfl) fx_no))))
theorem fk_241_16 (X : ez_X) (pc : Nat) : fx_ok X (ft_241_16 X pc) (ez_t241_16 pc) := by
  delta ft_241_16 ez_t241_16
  exact fx_cnd (fx_cnd (fx_cnd (fx_cnd (fun _ _ _ _ _ _ _ _ => rfl) fx_no) (fx_cnd (fun _ _ _ _ _ _ _ _ => rfl) fx_no)) (fx_cnd (fx_cnd (fun _ _ _ _ _ _ _ _ => rfl) fx_no) (fx_cnd (fx_cnd (fun _ _ _ _ _ _ _ _ => rfl) fx_no) (fx_cnd (fun _ _ _ _ _ _ _ _ => rfl) fx_no)))) (fx_cnd (fx_cnd (fx_cnd (fun _ _ _ _ _ _ _ _ => rfl) fx_no) (fx_cnd (fx_cnd (fun _ _ _ _ _ _ _ _ => rfl) fx_no) (fx_cnd (fun _ _ _ _ _ _ _ _ => rfl) fx_no))) (fx_cnd (fx_cnd (fun _ _ _ _ _ _ _ _ => rfl) fx_no) (fx_cnd (fx_cnd (fun _ _ _ _ _ _ _ _ => rfl) fx_no) (fx_cnd (fun _ _ _ _ _ _ _ _ => rfl) fx_no))))
theorem fk_241_17 (X : ez_X) (pc : Nat) : fx_ok X (ft_241_17 X pc) (ez_t241_17 pc) := by
  delta ft_241_17 ez_t241_17
  exact fx_cnd (fk_241_15 X pc) (fk_241_16 X pc)
theorem fk_241_18 (X : ez_X) (pc : Nat) : fx_ok X (ft_241_18 X pc) (ez_t241_18 pc) := by
  delta ft_241_18 ez_t241_18
  exact fx_cnd (fx_cnd (fx_cnd (fx_cnd (fun _ _ _ _ _ _ _ _ => rfl) fx_no) (fx_cnd (fun _ _ _ _ _ _ _ _ => rfl) fx_no)) (fx_cnd (fx_cnd (fun _ _ _ _ _ _ _ _ => rfl) fx_no) (fx_cnd (fx_cnd (fun _ _ _ _ _ _ _ _ => rfl) fx_no) (fx_cnd (fun _ _ _ _ _ _ _ _ => rfl) fx_no)))) (fx_cnd (fx_cnd (fx_cnd (fun _ _ _ _ _ _ _ _ => rfl) fx_no) (fx_cnd (fx_cnd (fun _ _ _ _ _ _ _ _ => rfl) fx_no) (fx_cnd (fun _ _ _ _ _ _ _ _ => rfl) fx_no))) (fx_cnd (fx_cnd (fun _ _ _ _ _ _ _ _ => rfl) fx_no) (fx_cnd (fx_cnd (fun _ _ _ _ _ _ _ _ => rfl) fx_no) (fx_cnd (fun _ _ _ _ _ _ _ _ => rfl) fx_no))))
theorem fk_241_19 (X : ez_X) (pc : Nat) : fx_ok X (ft_241_19 X pc) (ez_t241_19 pc) := by
  delta ft_241_19 ez_t241_19
  exact fx_cnd (fx_cnd (fx_cnd (fx_cnd (fun _ _ _ _ _ _ _ _ => rfl) fx_no) (fx_cnd (fun _ _ _ _ _ _ _ _ => rfl) fx_no)) (fx_cnd (fx_cnd (fun _ _ _ _ _ _ _ _ => rfl) fx_no) (fx_cnd (fx_cnd (fun _ _ _ _ _ _ _ _ => rfl) fx_no) (fx_cnd (fun _ _ _ _ _ _ _ _ => rfl) fx_no)))) (fx_cnd (fx_cnd (fx_cnd (fun _ _ _ _ _ _ _ _ => rfl) fx_no) (fx_cnd (fx_cnd (fun _ _ _ _ _ _ _ _ => rfl) fx_no) (fx_cnd (fun _ _ _ _ _ _ _ _ => rfl) fx_no))) (fx_cnd (fx_cnd (fun _ _ _ _ _ _ _ _ => rfl) fx_no) (fx_cnd (fx_cnd (fun _ _ _ _ _ _ _ _ => rfl) fx_no) (fx_cnd (fun _ _ _ _ _ _ _ _ => rfl) fx_no))))
theorem fk_241_20 (X : ez_X) (pc : Nat) : fx_ok X (ft_241_20 X pc) (ez_t241_20 pc) := by
  delta ft_241_20 ez_t241_20
  exact fx_cnd (fk_241_18 X pc) (fk_241_19 X pc)
theorem fk_241_21 (X : ez_X) (pc : Nat) : fx_ok X (ft_241_21 X pc) (ez_t241_21 pc) := by
  delta ft_241_21 ez_t241_21
  exact fx_cnd (fk_241_17 X pc) (fk_241_20 X pc)
theorem fk_241_22 (X : ez_X) (pc : Nat) : fx_ok X (ft_241_22 X pc) (ez_t241_22 pc) := by
  delta ft_241_22 ez_t241_22
  exact fx_cnd (fx_cnd (fx_cnd (fx_cnd (fun _ _ _ _ _ _ _ _ => rfl) fx_no) (fx_cnd (fun _ _ _ _ _ _ _ _ => rfl) fx_no)) (fx_cnd (fx_cnd (fun _ _ _ _ _ _ _ _ => rfl) fx_no) (fx_cnd (fx_cnd (fun _ _ _ _ _ _ _ _ => rfl) fx_no) (fx_cnd (fun _ _ _ _ _ _ _ _ => rfl) fx_no)))) (fx_cnd (fx_cnd (fx_cnd (fun _ _ _ _ _ _ _ _ => rfl) fx_no) (fx_cnd (fx_cnd (fun _ _ _ _ _ _ _ _ => rfl) fx_no) (fx_cnd (fun _ _ _ _ _ _ _ _ => rfl) fx_no))) (fx_cnd (fx_cnd (fun _ _ _ _ _ _ _ _ => rfl) fx_no) (fx_cnd (fx_cnd (fun _ _ _ _ _ _ _ _ => rfl) fx_no) (fx_cnd (fun _ _ _ _ _ _ _ _ => rfl) fx_no))))
theorem fk_241_23 (X : ez_X) (pc : Nat) : fx_ok X (ft_241_23 X pc) (ez_t241_23 pc) := by
  delta ft_241_23 ez_t241_23
  exact fx_cnd (fx_cnd (fx_cnd (fx_cnd (fun _ _ _ _ _ _ _ _ => rfl) fx_no) (fx_cnd (fun _ _ _ _ _ _ _ _ => rfl) fx_no)) (fx_cnd (fx_cnd (fun _ _ _ _ _ _ _ _ => rfl) fx_no) (fx_cnd (fx_cnd (fun _ _ _ _ _ _ _ _ => rfl) fx_no) (fx_cnd (fun _ _ _ _ _ _ _ _ => rfl) fx_no)))) (fx_cnd (fx_cnd (fx_cnd (fun _ _ _ _ _ _ _ _ => rfl) fx_no) (fx_cnd (fx_cnd (fun _ _ _ _ _ _ _ _ => rfl) fx_no) (fx_cnd (fun _ _ _ _ _ _ _ _ => rfl) fx_no))) (fx_cnd (fx_cnd (fun _ _ _ _ _ _ _ _ => rfl) fx_no) (fx_cnd (fx_cnd (fun _ _ _ _ _ _ _ _ => rfl) fx_no) (fx_cnd (fun _ _ _ _ _ _ _ _ => rfl) fx_no))))
theorem fk_241_24 (X : ez_X) (pc : Nat) : fx_ok X (ft_241_24 X pc) (ez_t241_24 pc) := by
  delta ft_241_24 ez_t241_24
  exact fx_cnd (fk_241_22 X pc) (fk_241_23 X pc)
theorem fk_241_25 (X : ez_X) (pc : Nat) : fx_ok X (ft_241_25 X pc) (ez_t241_25 pc) := by
  delta ft_241_25 ez_t241_25
  exact fx_cnd (fx_cnd (fx_cnd (fx_cnd (fun _ _ _ _ _ _ _ _ => rfl) fx_no) (fx_cnd (fun _ _ _ _ _ _ _ _ => rfl) fx_no)) (fx_cnd (fx_cnd (fun _ _ _ _ _ _ _ _ => rfl) fx_no) (fx_cnd (fx_cnd (fun _ _ _ _ _ _ _ _ => rfl) fx_no) (fx_cnd (fun _ _ _ _ _ _ _ _ => rfl) fx_no)))) (fx_cnd (fx_cnd (fx_cnd (fun _ _ _ _ _ _ _ _ => rfl) fx_no) (fx_cnd (fx_cnd (fun _ _ _ _ _ _ _ _ => rfl) fx_no) (fx_cnd (fun _ _ _ _ _ _ _ _ => rfl) fx_no))) (fx_cnd (fx_cnd (fun _ _ _ _ _ _ _ _ => rfl) fx_no) (fx_cnd (fx_cnd (fun _ _ _ _ _ _ _ _ => rfl) fx_no) (fx_cnd (fun _ _ _ _ _ _ _ _ => rfl) fx_no))))
theorem fk_241_26 (X : ez_X) (pc : Nat) : fx_ok X (ft_241_26 X pc) (ez_t241_26 pc) := by
  delta ft_241_26 ez_t241_26
  exact fx_cnd (fx_cnd (fx_cnd (fx_cnd (fun _ _ _ _ _ _ _ _ => rfl) fx_no) (fx_cnd (fun _ _ _ _ _ _ _ _ => rfl) fx_no)) (fx_cnd (fx_cnd (fun _ _ _ _ _ _ _ _ => rfl) fx_no) (fx_cnd (fx_cnd (fun _ _ _ _ _ _ _ _ => rfl) fx_no) (fx_cnd (fun _ _ _ _ _ _ _ _ => rfl) fx_no)))) (fx_cnd (fx_cnd (fx_cnd (fun _ _ _ _ _ _ _ _ => rfl) fx_no) (fx_cnd (fx_cnd (fun _ _ _ _ _ _ _ _ => rfl) fx_no) (fx_cnd (fun _ _ _ _ _ _ _ _ => rfl) fx_no))) (fx_cnd (fx_cnd (fun _ _ _ _ _ _ _ _ => rfl) fx_no) (fx_cnd (fx_cnd (fun _ _ _ _ _ _ _ _ => rfl) fx_no) (fx_cnd (fun _ _ _ _ _ _ _ _ => rfl) fx_no))))
theorem fk_241_27 (X : ez_X) (pc : Nat) : fx_ok X (ft_241_27 X pc) (ez_t241_27 pc) := by
  delta ft_241_27 ez_t241_27
  exact fx_cnd (fk_241_25 X pc) (fk_241_26 X pc)
theorem fk_241_28 (X : ez_X) (pc : Nat) : fx_ok X (ft_241_28 X pc) (ez_t241_28 pc) := by
  delta ft_241_28 ez_t241_28
  exact fx_cnd (fk_241_24 X pc) (fk_241_27 X pc)
theorem fk_241_29 (X : ez_X) (pc : Nat) : fx_ok X (ft_241_29 X pc) (ez_t241_29 pc) := by
  delta ft_241_29 ez_t241_29
  exact fx_cnd (fk_241_21 X pc) (fk_241_28 X pc)
theorem fk_241_30 (X : ez_X) (pc : Nat) : fx_ok X (ft_241_30 X pc) (ez_t241_30 pc) := by
  delta ft_241_30 ez_t241_30
  exact fx_cnd (fk_241_14 X pc) (fk_241_29 X pc)
theorem fk_241_31 (X : ez_X) (pc : Nat) : fx_ok X (ft_241_31 X pc) (ez_t241_31 pc) := by
  delta ft_241_31 ez_t241_31
  exact fx_cnd (fx_cnd (fx_cnd (fx_cnd (fun _ _ _ _ _ _ _ _ => rfl) fx_no) (fx_cnd (fun _ _ _ _ _ _ _ _ => rfl) fx_no)) (fx_cnd (fx_cnd (fun _ _ _ _ _ _ _ _ => rfl) fx_no) (fx_cnd (fx_cnd (fun _ _ _ _ _ _ _ _ => rfl) fx_no) (fx_cnd (fun _ _ _ _ _ _ _ _ => rfl) fx_no)))) (fx_cnd (fx_cnd (fx_cnd (fun _ _ _ _ _ _ _ _ => rfl) fx_no) (fx_cnd (fx_cnd (fun _ _ _ _ _ _ _ _ => rfl) fx_no) (fx_cnd (fun _ _ _ _ _ _ _ _ => rfl) fx_no))) (fx_cnd (fx_cnd (fun _ _ _ _ _ _ _ _ => rfl) fx_no) (fx_cnd (fx_cnd (fun _ _ _ _ _ _ _ _ => rfl) fx_no) (fx_cnd (fun _ _ _ _ _ _ _ _ => rfl) fx_no))))
theorem fk_241_32 (X : ez_X) (pc : Nat) : fx_ok X (ft_241_32 X pc) (ez_t241_32 pc) := by
  delta ft_241_32 ez_t241_32
  exact fx_cnd (fx_cnd (fx_cnd (fx_cnd (fun _ _ _ _ _ _ _ _ => rfl) fx_no) (fx_cnd (fun _ _ _ _ _ _ _ _ => rfl) fx_no)) (fx_cnd (fx_cnd (fun _ _ _ _ _ _ _ _ => rfl) fx_no) (fx_cnd (fx_cnd (fun _ _ _ _ _ _ _ _ => rfl) fx_no) (fx_cnd (fun _ _ _ _ _ _ _ _ => rfl) fx_no)))) (fx_cnd (fx_cnd (fx_cnd (fun _ _ _ _ _ _ _ _ => rfl) fx_no) (fx_cnd (fx_cnd (fun _ _ _ _ _ _ _ _ => rfl) fx_no) (fx_cnd (fun _ _ _ _ _ _ _ _ => rfl) fx_no))) (fx_cnd (fx_cnd (fun _ _ _ _ _ _ _ _ => rfl) fx_no) (fx_cnd (fx_cnd (fun _ _ _ _ _ _ _ _ => rfl) fx_no) (fx_cnd (fun _ _ _ _ _ _ _ _ => rfl) fx_no))))
theorem fk_241_33 (X : ez_X) (pc : Nat) : fx_ok X (ft_241_33 X pc) (ez_t241_33 pc) := by
  delta ft_241_33 ez_t241_33
  exact fx_cnd (fk_241_31 X pc) (fk_241_32 X pc)
theorem fk_241_34 (X : ez_X) (pc : Nat) : fx_ok X (ft_241_34 X pc) (ez_t241_34 pc) := by
  delta ft_241_34 ez_t241_34
  exact fx_cnd (fx_cnd (fx_cnd (fx_cnd (fun _ _ _ _ _ _ _ _ => rfl) fx_no) (fx_cnd (fun _ _ _ _ _ _ _ _ => rfl) fx_no)) (fx_cnd (fx_cnd (fun _ _ _ _ _ _ _ _ => rfl) fx_no) (fx_cnd (fx_cnd (fun _ _ _ _ _ _ _ _ => rfl) fx_no) (fx_cnd (fun _ _ _ _ _ _ _ _ => rfl) fx_no)))) (fx_cnd (fx_cnd (fx_cnd (fun _ _ _ _ _ _ _ _ => rfl) fx_no) (fx_cnd (fx_cnd (fun _ _ _ _ _ _ _ _ => rfl) fx_no) (fx_cnd (fun _ _ _ _ _ _ _ _ => rfl) fx_no))) (fx_cnd (fx_cnd (fun _ _ _ _ _ _ _ _ => rfl) fx_no) (fx_cnd (fx_cnd (fun _ _ _ _ _ _ _ _ => rfl) fx_no) (fx_cnd (fun _ _ _ _ _ _ _ _ => rfl) fx_no))))
theorem fk_241_35 (X : ez_X) (pc : Nat) : fx_ok X (ft_241_35 X pc) (ez_t241_35 pc) := by
  delta ft_241_35 ez_t241_35
  exact fx_cnd (fx_cnd (fx_cnd (fx_cnd (fun _ _ _ _ _ _ _ _ => rfl) fx_no) (fx_cnd (fun _ _ _ _ _ _ _ _ => rfl) fx_no)) (fx_cnd (fx_cnd (fun _ _ _ _ _ _ _ _ => rfl) fx_no) (fx_cnd (fx_cnd (fun _ _ _ _ _ _ _ _ => rfl) fx_no) (fx_cnd (fun _ _ _ _ _ _ _ _ => rfl) fx_no)))) (fx_cnd (fx_cnd (fx_cnd (fun _ _ _ _ _ _ _ _ => rfl) fx_no) (fx_cnd (fx_cnd (fun _ _ _ _ _ _ _ _ => rfl) fx_no) (fx_cnd (fun _ _ _ _ _ _ _ _ => rfl) fx_no))) (fx_cnd (fx_cnd (fun _ _ _ _ _ _ _ _ => rfl) fx_no) (fx_cnd (fx_cnd (fun _ _ _ _ _ _ _ _ => rfl) fx_no) (fx_cnd (fun _ _ _ _ _ _ _ _ => rfl) fx_no))))
theorem fk_241_36 (X : ez_X) (pc : Nat) : fx_ok X (ft_241_36 X pc) (ez_t241_36 pc) := by
  delta ft_241_36 ez_t241_36
  exact fx_cnd (fk_241_34 X pc) (fk_241_35 X pc)
theorem fk_241_37 (X : ez_X) (pc : Nat) : fx_ok X (ft_241_37 X pc) (ez_t241_37 pc) := by
  delta ft_241_37 ez_t241_37
  exact fx_cnd (fk_241_33 X pc) (fk_241_36 X pc)
theorem fk_241_38 (X : ez_X) (pc : Nat) : fx_ok X (ft_241_38 X pc) (ez_t241_38 pc) := by
  delta ft_241_38 ez_t241_38
  exact fx_cnd (fx_cnd (fx_cnd (fx_cnd (fun _ _ _ _ _ _ _ _ => rfl) fx_no) (fx_cnd (fun _ _ _ _ _ _ _ _ => rfl) fx_no)) (fx_cnd (fx_cnd (fun _ _ _ _ _ _ _ _ => rfl) fx_no) (fx_cnd (fx_cnd (fun _ _ _ _ _ _ _ _ => rfl) fx_no) (fx_cnd (fun _ _ _ _ _ _ _ _ => rfl) fx_no)))) (fx_cnd (fx_cnd (fx_cnd (fun _ _ _ _ _ _ _ _ => rfl) fx_no) (fx_cnd (fx_cnd (fun _ _ _ _ _ _ _ _ => rfl) fx_no) (fx_cnd (fun _ _ _ _ _ _ _ _ => rfl) fx_no))) (fx_cnd (fx_cnd (fun _ _ _ _ _ _ _ _ => rfl) fx_no) (fx_cnd (fx_cnd (fun _ _ _ _ _ _ _ _ => rfl) fx_no) (fx_cnd (fun _ _ _ _ _ _ _ _ => rfl) fx_no))))
theorem fk_241_39 (X : ez_X) (pc : Nat) : fx_ok X (ft_241_39 X pc) (ez_t241_39 pc) := by
  delta ft_241_39 ez_t241_39
  exact fx_cnd (fx_cnd (fx_cnd (fx_cnd (fun _ _ _ _ _ _ _ _ => rfl) fx_no) (fx_cnd (fun _ _ _ _ _ _ _ _ => rfl) fx_no)) (fx_cnd (fx_cnd (fun _ _ _ _ _ _ _ _ => rfl) fx_no) (fx_cnd (fx_cnd (fun _ _ _ _ _ _ _ _ => rfl) fx_no) (fx_cnd (fun _ _ _ _ _ _ _ _ => rfl) fx_no)))) (fx_cnd (fx_cnd (fx_cnd (fun _ _ _ _ _ _ _ _ => rfl) fx_no) (fx_cnd (fx_cnd (fun _ _ _ _ _ _ _ _ => rfl) fx_no) (fx_cnd (fun _ _ _ _ _ _ _ _ => rfl) fx_no))) (fx_cnd (fx_cnd (fun _ _ _ _ _ _ _ _ => rfl) fx_no) (fx_cnd (fx_cnd (fun _ _ _ _ _ _ _ _ => rfl) fx_no) (fx_cnd (fun _ _ _ _ _ _ _ _ => rfl) fx_no))))
theorem fk_241_40 (X : ez_X) (pc : Nat) : fx_ok X (ft_241_40 X pc) (ez_t241_40 pc) := by
  delta ft_241_40 ez_t241_40
  exact fx_cnd (fk_241_38 X pc) (fk_241_39 X pc)
theorem fk_241_41 (X : ez_X) (pc : Nat) : fx_ok X (ft_241_41 X pc) (ez_t241_41 pc) := by
  delta ft_241_41 ez_t241_41
  exact fx_cnd (fx_cnd (fx_cnd (fx_cnd (fun _ _ _ _ _ _ _ _ => rfl) fx_no) (fx_cnd (fun _ _ _ _ _ _ _ _ => rfl) fx_no)) (fx_cnd (fx_cnd (fun _ _ _ _ _ _ _ _ => rfl) fx_no) (fx_cnd (fx_cnd (fun _ _ _ _ _ _ _ _ => rfl) fx_no) (fx_cnd (fun _ _ _ _ _ _ _ _ => rfl) fx_no)))) (fx_cnd (fx_cnd (fx_cnd (fun _ _ _ _ _ _ _ _ => rfl) fx_no) (fx_cnd (fx_cnd (fun _ _ _ _ _ _ _ _ => rfl) fx_no) (fx_cnd (fun _ _ _ _ _ _ _ _ => rfl) fx_no))) (fx_cnd (fx_cnd (fun _ _ _ _ _ _ _ _ => rfl) fx_no) (fx_cnd (fx_cnd (fun _ _ _ _ _ _ _ _ => rfl) fx_no) (fx_cnd (fun _ _ _ _ _ _ _ _ => rfl) fx_no))))
theorem fk_241_42 (X : ez_X) (pc : Nat) : fx_ok X (ft_241_42 X pc) (ez_t241_42 pc) := by
  delta ft_241_42 ez_t241_42
  exact fx_cnd (fx_cnd (fx_cnd (fx_cnd (fun _ _ _ _ _ _ _ _ => rfl) fx_no) (fx_cnd (fun _ _ _ _ _ _ _ _ => rfl) fx_no)) (fx_cnd (fx_cnd (fun _ _ _ _ _ _ _ _ => rfl) fx_no) (fx_cnd (fx_cnd (fun _ _ _ _ _ _ _ _ => rfl) fx_no) (fx_cnd (fun _ _ _ _ _ _ _ _ => rfl) fx_no)))) (fx_cnd (fx_cnd (fx_cnd (fun _ _ _ _ _ _ _ _ => rfl) fx_no) (fx_cnd (fx_cnd (fun _ _ _ _ _ _ _ _ => rfl) fx_no) (fx_cnd (fun _ _ _ _ _ _ _ _ => rfl) fx_no))) (fx_cnd (fx_cnd (fun _ _ _ _ _ _ _ _ => rfl) fx_no) (fx_cnd (fx_cnd (fun _ _ _ _ _ _ _ _ => rfl) fx_no) (fx_cnd (fun _ _ _ _ _ _ _ _ => rfl) fx_no))))
theorem fk_241_43 (X : ez_X) (pc : Nat) : fx_ok X (ft_241_43 X pc) (ez_t241_43 pc) := by
  delta ft_241_43 ez_t241_43
  exact fx_cnd (fk_241_41 X pc) (fk_241_42 X pc)
theorem fk_241_44 (X : ez_X) (pc : Nat) : fx_ok X (ft_241_44 X pc) (ez_t241_44 pc) := by
  delta ft_241_44 ez_t241_44
  exact fx_cnd (fk_241_40 X pc) (fk_241_43 X pc)
theorem fk_241_45 (X : ez_X) (pc : Nat) : fx_ok X (ft_241_45 X pc) (ez_t241_45 pc) := by
  delta ft_241_45 ez_t241_45
  exact fx_cnd (fk_241_37 X pc) (fk_241_44 X pc)
theorem fk_241_46 (X : ez_X) (pc : Nat) : fx_ok X (ft_241_46 X pc) (ez_t241_46 pc) := by
  delta ft_241_46 ez_t241_46
  exact fx_cnd (fx_cnd (fx_cnd (fx_cnd (fun _ _ _ _ _ _ _ _ => rfl) fx_no) (fx_cnd (fun _ _ _ _ _ _ _ _ => rfl) fx_no)) (fx_cnd (fx_cnd (fun _ _ _ _ _ _ _ _ => rfl) fx_no) (fx_cnd (fx_cnd (fun _ _ _ _ _ _ _ _ => rfl) fx_no) (fx_cnd (fun _ _ _ _ _ _ _ _ => rfl) fx_no)))) (fx_cnd (fx_cnd (fx_cnd (fun _ _ _ _ _ _ _ _ => rfl) fx_no) (fx_cnd (fx_cnd (fun _ _ _ _ _ _ _ _ => rfl) fx_no) (fx_cnd (fun _ _ _ _ _ _ _ _ => rfl) fx_no))) (fx_cnd (fx_cnd (fun _ _ _ _ _ _ _ _ => rfl) fx_no) (fx_cnd (fx_cnd (fun _ _ _ _ _ _ _ _ => rfl) fx_no) (fx_cnd (fun _ _ _ _ _ _ _ _ => rfl) fx_no))))
theorem fk_241_47 (X : ez_X) (pc : Nat) : fx_ok X (ft_241_47 X pc) (ez_t241_47 pc) := by
  delta ft_241_47 ez_t241_47
  exact fx_cnd (fx_cnd (fx_cnd (fx_cnd (fun _ _ _ _ _ _ _ _ => rfl) fx_no) (fx_cnd (fun _ _ _ _ _ _ _ _ => rfl) fx_no)) (fx_cnd (fx_cnd (fun _ _ _ _ _ _ _ _ => rfl) fx_no) (fx_cnd (fx_cnd (fun _ _ _ _ _ _ _ _ => rfl) fx_no) (fx_cnd (fun _ _ _ _ _ _ _ _ => rfl) fx_no)))) (fx_cnd (fx_cnd (fx_cnd (fun _ _ _ _ _ _ _ _ => rfl) fx_no) (fx_cnd (fx_cnd (fun _ _ _ _ _ _ _ _ => rfl) fx_no) (fx_cnd (fun _ _ _ _ _ _ _ _ => rfl) fx_no))) (fx_cnd (fx_cnd (fun _ _ _ _ _ _ _ _ => rfl) fx_no) (fx_cnd (fx_cnd (fun _ _ _ _ _ _ _ _ => rfl) fx_no) (fx_cnd (fun _ _ _ _ _ _ _ _ => rfl) fx_no))))
theorem fk_241_48 (X : ez_X) (pc : Nat) : fx_ok X (ft_241_48 X pc) (ez_t241_48 pc) := by
  delta ft_241_48 ez_t241_48
  exact fx_cnd (fk_241_46 X pc) (fk_241_47 X pc)
theorem fk_241_49 (X : ez_X) (pc : Nat) : fx_ok X (ft_241_49 X pc) (ez_t241_49 pc) := by
  delta ft_241_49 ez_t241_49
  exact fx_cnd (fx_cnd (fx_cnd (fx_cnd (fun _ _ _ _ _ _ _ _ => rfl) fx_no) (fx_cnd (fun _ _ _ _ _ _ _ _ => rfl) fx_no)) (fx_cnd (fx_cnd (fun _ _ _ _ _ _ _ _ => rfl) fx_no) (fx_cnd (fx_cnd (fun _ _ _ _ _ _ _ _ => rfl) fx_no) (fx_cnd (fun _ _ _ _ _ _ _ _ => rfl) fx_no)))) (fx_cnd (fx_cnd (fx_cnd (fun _ _ _ _ _ _ _ _ => rfl) fx_no) (fx_cnd (fx_cnd (fun _ _ _ _ _ _ _ _ => rfl) fx_no) (fx_cnd (fun _ _ _ _ _ _ _ _ => rfl) fx_no))) (fx_cnd (fx_cnd (fun _ _ _ _ _ _ _ _ => rfl) fx_no) (fx_cnd (fx_cnd (fun _ _ _ _ _ _ _ _ => rfl) fx_no) (fx_cnd (fun _ _ _ _ _ _ _ _ => rfl) fx_no))))
theorem fk_241_50 (X : ez_X) (pc : Nat) : fx_ok X (ft_241_50 X pc) (ez_t241_50 pc) := by
  delta ft_241_50 ez_t241_50
  exact fx_cnd (fx_cnd (fx_cnd (fx_cnd (fun _ _ _ _ _ _ _ _ => rfl) fx_no) (fx_cnd (fun _ _ _ _ _ _ _ _ => rfl) fx_no)) (fx_cnd (fx_cnd (fun _ _ _ _ _ _ _ _ => rfl) fx_no) (fx_cnd (fx_cnd (fun _ _ _ _ _ _ _ _ => rfl) fx_no) (fx_cnd (fun _ _ _ _ _ _ _ _ => rfl) fx_no)))) (fx_cnd (fx_cnd (fx_cnd (fun _ _ _ _ _ _ _ _ => rfl) fx_no) (fx_cnd (fx_cnd (fun _ _ _ _ _ _ _ _ => rfl) fx_no) (fx_cnd (fun _ _ _ _ _ _ _ _ => rfl) fx_no))) (fx_cnd (fx_cnd (fun _ _ _ _ _ _ _ _ => rfl) fx_no) (fx_cnd (fx_cnd (fun _ _ _ _ _ _ _ _ => rfl) fx_no) (fx_cnd (fun _ _ _ _ _ _ _ _ => rfl) fx_no))))
theorem fk_241_51 (X : ez_X) (pc : Nat) : fx_ok X (ft_241_51 X pc) (ez_t241_51 pc) := by
  delta ft_241_51 ez_t241_51
  exact fx_cnd (fk_241_49 X pc) (fk_241_50 X pc)
theorem fk_241_52 (X : ez_X) (pc : Nat) : fx_ok X (ft_241_52 X pc) (ez_t241_52 pc) := by
  delta ft_241_52 ez_t241_52
  exact fx_cnd (fk_241_48 X pc) (fk_241_51 X pc)
theorem fk_241_53 (X : ez_X) (pc : Nat) : fx_ok X (ft_241_53 X pc) (ez_t241_53 pc) := by
  delta ft_241_53 ez_t241_53
  exact fx_cnd (fx_cnd (fx_cnd (fx_cnd (fun _ _ _ _ _ _ _ _ => rfl) fx_no) (fx_cnd (fun _ _ _ _ _ _ _ _ => rfl) fx_no)) (fx_cnd (fx_cnd (fun _ _ _ _ _ _ _ _ => rfl) fx_no) (fx_cnd (fx_cnd (fun _ _ _ _ _ _ _ _ => rfl) fx_no) (fx_cnd (fun _ _ _ _ _ _ _ _ => rfl) fx_no)))) (fx_cnd (fx_cnd (fx_cnd (fun _ _ _ _ _ _ _ _ => rfl) fx_no) (fx_cnd (fx_cnd (fun _ _ _ _ _ _ _ _ => rfl) fx_no) (fx_cnd (fun _ _ _ _ _ _ _ _ => rfl) fx_no))) (fx_cnd (fx_cnd (fun _ _ _ _ _ _ _ _ => rfl) fx_no) (fx_cnd (fx_cnd (fun _ _ _ _ _ _ _ _ => rfl) fx_no) (fx_cnd (fun _ _ _ _ _ _ _ _ => rfl) fx_no))))
theorem fk_241_54 (X : ez_X) (pc : Nat) : fx_ok X (ft_241_54 X pc) (ez_t241_54 pc) := by
  delta ft_241_54 ez_t241_54
  exact fx_cnd (fx_cnd (fx_cnd (fx_cnd (fun _ _ _ _ _ _ _ _ => rfl) fx_no) (fx_cnd (fun _ _ _ _ _ _ _ _ => rfl) fx_no)) (fx_cnd (fx_cnd (fun _ _ _ _ _ _ _ _ => rfl) fx_no) (fx_cnd (fx_cnd (fun _ _ _ _ _ _ _ _ => rfl) fx_no) (fx_cnd (fun _ _ _ _ _ _ _ _ => rfl) fx_no)))) (fx_cnd (fx_cnd (fx_cnd (fun _ _ _ _ _ _ _ _ => rfl) fx_no) (fx_cnd (fx_cnd (fun _ _ _ _ _ _ _ _ => rfl) fx_no) (fx_cnd (fun _ _ _ _ _ _ _ _ => rfl) fx_no))) (fx_cnd (fx_cnd (fun _ _ _ _ _ _ _ _ => rfl) fx_no) (fx_cnd (fx_cnd (fun _ _ _ _ _ _ _ _ => rfl) fx_no) (fx_cnd (fun _ _ _ _ _ _ _ _ => rfl) fx_no))))
theorem fk_241_55 (X : ez_X) (pc : Nat) : fx_ok X (ft_241_55 X pc) (ez_t241_55 pc) := by
  delta ft_241_55 ez_t241_55
  exact fx_cnd (fk_241_53 X pc) (fk_241_54 X pc)
theorem fk_241_56 (X : ez_X) (pc : Nat) : fx_ok X (ft_241_56 X pc) (ez_t241_56 pc) := by
  delta ft_241_56 ez_t241_56
  exact fx_cnd (fx_cnd (fx_cnd (fx_cnd (fun _ _ _ _ _ _ _ _ => rfl) fx_no) (fx_cnd (fun _ _ _ _ _ _ _ _ => rfl) fx_no)) (fx_cnd (fx_cnd (fun _ _ _ _ _ _ _ _ => rfl) fx_no) (fx_cnd (fx_cnd (fun _ _ _ _ _ _ _ _ => rfl) fx_no) (fx_cnd (fun _ _ _ _ _ _ _ _ => rfl) fx_no)))) (fx_cnd (fx_cnd (fx_cnd (fun _ _ _ _ _ _ _ _ => rfl) fx_no) (fx_cnd (fx_cnd (fun _ _ _ _ _ _ _ _ => rfl) fx_no) (fx_cnd (fun _ _ _ _ _ _ _ _ => rfl) fx_no))) (fx_cnd (fx_cnd (fun _ _ _ _ _ _ _ _ => rfl) fx_no) (fx_cnd (fx_cnd (fun _ _ _ _ _ _ _ _ => rfl) fx_no) (fx_cnd (fun _ _ _ _ _ _ _ _ => rfl) fx_no))))
theorem fk_241_57 (X : ez_X) (pc : Nat) : fx_ok X (ft_241_57 X pc) (ez_t241_57 pc) := by
  delta ft_241_57 ez_t241_57
  exact fx_cnd (fx_cnd (fx_cnd (fx_cnd (fun _ _ _ _ _ _ _ _ => rfl) fx_no) (fx_cnd (fun _ _ _ _ _ _ _ _ => rfl) fx_no)) (fx_cnd (fx_cnd (fun _ _ _ _ _ _ _ _ => rfl) fx_no) (fx_cnd (fx_cnd (fun _ _ _ _ _ _ _ _ => rfl) fx_no) (fx_cnd (fun _ _ _ _ _ _ _ _ => rfl) fx_no)))) (fx_cnd (fx_cnd (fx_cnd (fun _ _ _ _ _ _ _ _ => rfl) fx_no) (fx_cnd (fx_cnd (fun _ _ _ _ _ _ _ _ => rfl) fx_no) (fx_cnd (fun _ _ _ _ _ _ _ _ => rfl) fx_no))) (fx_cnd (fx_cnd (fun _ _ _ _ _ _ _ _ => rfl) fx_no) (fx_cnd (fx_cnd (fun _ _ _ _ _ _ _ _ => rfl) fx_no) (fx_cnd (fun _ _ _ _ _ _ _ _ => rfl) fx_no))))
theorem fk_241_58 (X : ez_X) (pc : Nat) : fx_ok X (ft_241_58 X pc) (ez_t241_58 pc) := by
  delta ft_241_58 ez_t241_58
  exact fx_cnd (fk_241_56 X pc) (fk_241_57 X pc)
theorem fk_241_59 (X : ez_X) (pc : Nat) : fx_ok X (ft_241_59 X pc) (ez_t241_59 pc) := by
  delta ft_241_59 ez_t241_59
  exact fx_cnd (fk_241_55 X pc) (fk_241_58 X pc)
theorem fk_241_60 (X : ez_X) (pc : Nat) : fx_ok X (ft_241_60 X pc) (ez_t241_60 pc) := by
  delta ft_241_60 ez_t241_60
  exact fx_cnd (fk_241_52 X pc) (fk_241_59 X pc)
theorem fk_241_61 (X : ez_X) (pc : Nat) : fx_ok X (ft_241_61 X pc) (ez_t241_61 pc) := by
  delta ft_241_61 ez_t241_61
  exact fx_cnd (fk_241_45 X pc) (fk_241_60 X pc)
theorem fk_241_62 (X : ez_X) (pc : Nat) : fx_ok X (ft_241_62 X pc) (ez_t241_62 pc) := by
  delta ft_241_62 ez_t241_62
  exact fx_cnd (fk_241_30 X pc) (fk_241_61 X pc)
theorem fk_241_63 (X : ez_X) (pc : Nat) : fx_ok X (ft_241_63 X pc) (ez_t241_63 pc) := by
  delta ft_241_63 ez_t241_63
  exact fx_cnd (fx_cnd (fx_cnd (fx_cnd (fun _ _ _ _ _ _ _ _ => rfl) fx_no) (fx_cnd (fun _ _ _ _ _ _ _ _ => rfl) fx_no)) (fx_cnd (fx_cnd (fun _ _ _ _ _ _ _ _ => rfl) fx_no) (fx_cnd (fx_cnd (fun _ _ _ _ _ _ _ _ => rfl) fx_no) (fx_cnd (fun _ _ _ _ _ _ _ _ => rfl) fx_no)))) (fx_cnd (fx_cnd (fx_cnd (fun _ _ _ _ _ _ _ _ => rfl) fx_no) (fx_cnd (fun _ _ _ _ _ _ _ _ => rfl) fx_no)) (fx_cnd (fx_cnd (fun _ _ _ _ _ _ _ _ => rfl) fx_no) (fx_cnd (fx_cnd (fun _ _ _ _ _ _ _ _ => rfl) fx_no) (fx_cnd (fun _ _ _ _ _ _ _ _ => rfl) fx_no))))
theorem fk_241_64 (X : ez_X) (pc : Nat) : fx_ok X (ft_241_64 X pc) (ez_t241_64 pc) := by
  delta ft_241_64 ez_t241_64
  exact fx_cnd (fx_cnd (fx_cnd (fx_cnd (fun _ _ _ _ _ _ _ _ => rfl) fx_no) (fx_cnd (fun _ _ _ _ _ _ _ _ => rfl) fx_no)) (fx_cnd (fx_cnd (fun _ _ _ _ _ _ _ _ => rfl) fx_no) (fx_cnd (fx_cnd (fun _ _ _ _ _ _ _ _ => rfl) fx_no) (fx_cnd (fun _ _ _ _ _ _ _ _ => rfl) fx_no)))) (fx_cnd (fx_cnd (fx_cnd (fun _ _ _ _ _ _ _ _ => rfl) fx_no) (fx_cnd (fx_cnd (fun _ _ _ _ _ _ _ _ => rfl) fx_no) (fx_cnd (fun _ _ _ _ _ _ _ _ => rfl) fx_no))) (fx_cnd (fx_cnd (fun _ _ _ _ _ _ _ _ => rfl) fx_no) (fx_cnd (fx_cnd (fun _ _ _ _ _ _ _ _ => rfl) fx_no) (fx_cnd (fun _ _ _ _ _ _ _ _ => rfl) fx_no))))
theorem fk_241_65 (X : ez_X) (pc : Nat) : fx_ok X (ft_241_65 X pc) (ez_t241_65 pc) := by
  delta ft_241_65 ez_t241_65
  exact fx_cnd (fk_241_63 X pc) (fk_241_64 X pc)
theorem fk_241_66 (X : ez_X) (pc : Nat) : fx_ok X (ft_241_66 X pc) (ez_t241_66 pc) := by
  delta ft_241_66 ez_t241_66
  exact fx_cnd (fx_cnd (fx_cnd (fx_cnd (fun _ _ _ _ _ _ _ _ => rfl) fx_no) (fx_cnd (fun _ _ _ _ _ _ _ _ => rfl) fx_no)) (fx_cnd (fx_cnd (fun _ _ _ _ _ _ _ _ => rfl) fx_no) (fx_cnd (fx_cnd (fun _ _ _ _ _ _ _ _ => rfl) fx_no) (fx_cnd (fun _ _ _ _ _ _ _ _ => rfl) fx_no)))) (fx_cnd (fx_cnd (fx_cnd (fun _ _ _ _ _ _ _ _ => rfl) fx_no) (fx_cnd (fx_cnd (fun _ _ _ _ _ _ _ _ => rfl) fx_no) (fx_cnd (fun _ _ _ _ _ _ _ _ => rfl) fx_no))) (fx_cnd (fx_cnd (fun _ _ _ _ _ _ _ _ => rfl) fx_no) (fx_cnd (fx_cnd (fun _ _ _ _ _ _ _ _ => rfl) fx_no) (fx_cnd (fun _ _ _ _ _ _ _ _ => rfl) fx_no))))
theorem fk_241_67 (X : ez_X) (pc : Nat) : fx_ok X (ft_241_67 X pc) (ez_t241_67 pc) := by
  delta ft_241_67 ez_t241_67
  exact fx_cnd (fx_cnd (fx_cnd (fx_cnd (fun _ _ _ _ _ _ _ _ => rfl) fx_no) (fx_cnd (fun _ _ _ _ _ _ _ _ => rfl) fx_no)) (fx_cnd (fx_cnd (fun _ _ _ _ _ _ _ _ => rfl) fx_no) (fx_cnd (fx_cnd (fun _ _ _ _ _ _ _ _ => rfl) fx_no) (fx_cnd (fun _ _ _ _ _ _ _ _ => rfl) fx_no)))) (fx_cnd (fx_cnd (fx_cnd (fun _ _ _ _ _ _ _ _ => rfl) fx_no) (fx_cnd (fx_cnd (fun _ _ _ _ _ _ _ _ => rfl) fx_no) (fx_cnd (fun _ _ _ _ _ _ _ _ => rfl) fx_no))) (fx_cnd (fx_cnd (fun _ _ _ _ _ _ _ _ => rfl) fx_no) (fx_cnd (fx_cnd (fun _ _ _ _ _ _ _ _ => rfl) fx_no) (fx_cnd (fun _ _ _ _ _ _ _ _ => rfl) fx_no))))
theorem fk_241_68 (X : ez_X) (pc : Nat) : fx_ok X (ft_241_68 X pc) (ez_t241_68 pc) := by
  delta ft_241_68 ez_t241_68
  exact fx_cnd (fk_241_66 X pc) (fk_241_67 X pc)
theorem fk_241_69 (X : ez_X) (pc : Nat) : fx_ok X (ft_241_69 X pc) (ez_t241_69 pc) := by
  delta ft_241_69 ez_t241_69
  exact fx_cnd (fk_241_65 X pc) (fk_241_68 X pc)
theorem fk_241_70 (X : ez_X) (pc : Nat) : fx_ok X (ft_241_70 X pc) (ez_t241_70 pc) := by
  delta ft_241_70 ez_t241_70
  exact fx_cnd (fx_cnd (fx_cnd (fx_cnd (fun _ _ _ _ _ _ _ _ => rfl) fx_no) (fx_cnd (fun _ _ _ _ _ _ _ _ => rfl) fx_no)) (fx_cnd (fx_cnd (fun _ _ _ _ _ _ _ _ => rfl) fx_no) (fx_cnd (fx_cnd (fun _ _ _ _ _ _ _ _ => rfl) fx_no) (fx_cnd (fun _ _ _ _ _ _ _ _ => rfl) fx_no)))) (fx_cnd (fx_cnd (fx_cnd (fun _ _ _ _ _ _ _ _ => rfl) fx_no) (fx_cnd (fx_cnd (fun _ _ _ _ _ _ _ _ => rfl) fx_no) (fx_cnd (fun _ _ _ _ _ _ _ _ => rfl) fx_no))) (fx_cnd (fx_cnd (fun _ _ _ _ _ _ _ _ => rfl) fx_no) (fx_cnd (fx_cnd (fun _ _ _ _ _ _ _ _ => rfl) fx_no) (fx_cnd (fun _ _ _ _ _ _ _ _ => rfl) fx_no))))
theorem fk_241_71 (X : ez_X) (pc : Nat) : fx_ok X (ft_241_71 X pc) (ez_t241_71 pc) := by
  delta ft_241_71 ez_t241_71
  exact fx_cnd (fx_cnd (fx_cnd (fx_cnd (fun _ _ _ _ _ _ _ _ => rfl) fx_no) (fx_cnd (fun _ _ _ _ _ _ _ _ => rfl) fx_no)) (fx_cnd (fx_cnd (fun _ _ _ _ _ _ _ _ => rfl) fx_no) (fx_cnd (fx_cnd (fun _ _ _ _ _ _ _ _ => rfl) fx_no) (fx_cnd (fun _ _ _ _ _ _ _ _ => rfl) fx_no)))) (fx_cnd (fx_cnd (fx_cnd (fun _ _ _ _ _ _ _ _ => rfl) fx_no) (fx_cnd (fx_cnd (fun _ _ _ _ _ _ _ _ => rfl) fx_no) (fx_cnd (fun _ _ _ _ _ _ _ _ => rfl) fx_no))) (fx_cnd (fx_cnd (fun _ _ _ _ _ _ _ _ => rfl) fx_no) (fx_cnd (fx_cnd (fun _ _ _ _ _ _ _ _ => rfl) fx_no) (fx_cnd (fun _ _ _ _ _ _ _ _ => rfl) fx_no))))
theorem fk_241_72 (X : ez_X) (pc : Nat) : fx_ok X (ft_241_72 X pc) (ez_t241_72 pc) := by
  delta ft_241_72 ez_t241_72
  exact fx_cnd (fk_241_70 X pc) (fk_241_71 X pc)
theorem fk_241_73 (X : ez_X) (pc : Nat) : fx_ok X (ft_241_73 X pc) (ez_t241_73 pc) := by
  delta ft_241_73 ez_t241_73
  exact fx_cnd (fx_cnd (fx_cnd (fx_cnd (fun _ _ _ _ _ _ _ _ => rfl) fx_no) (fx_cnd (fun _ _ _ _ _ _ _ _ => rfl) fx_no)) (fx_cnd (fx_cnd (fun _ _ _ _ _ _ _ _ => rfl) fx_no) (fx_cnd (fx_cnd (fun _ _ _ _ _ _ _ _ => rfl) fx_no) (fx_cnd (fun _ _ _ _ _ _ _ _ => rfl) fx_no)))) (fx_cnd (fx_cnd (fx_cnd (fun _ _ _ _ _ _ _ _ => rfl) fx_no) (fx_cnd (fx_cnd (fun _ _ _ _ _ _ _ _ => rfl) fx_no) (fx_cnd (fun _ _ _ _ _ _ _ _ => rfl) fx_no))) (fx_cnd (fx_cnd (fun _ _ _ _ _ _ _ _ => rfl) fx_no) (fx_cnd (fx_cnd (fun _ _ _ _ _ _ _ _ => rfl) fx_no) (fx_cnd (fun _ _ _ _ _ _ _ _ => rfl) fx_no))))
theorem fk_241_74 (X : ez_X) (pc : Nat) : fx_ok X (ft_241_74 X pc) (ez_t241_74 pc) := by
  delta ft_241_74 ez_t241_74
  exact fx_cnd (fx_cnd (fx_cnd (fx_cnd (fun _ _ _ _ _ _ _ _ => rfl) fx_no) (fx_cnd (fun _ _ _ _ _ _ _ _ => rfl) fx_no)) (fx_cnd (fx_cnd (fun _ _ _ _ _ _ _ _ => rfl) fx_no) (fx_cnd (fx_cnd (fun _ _ _ _ _ _ _ _ => rfl) fx_no) (fx_cnd (fun _ _ _ _ _ _ _ _ => rfl) fx_no)))) (fx_cnd (fx_cnd (fx_cnd (fun _ _ _ _ _ _ _ _ => rfl) fx_no) (fx_cnd (fx_cnd (fun _ _ _ _ _ _ _ _ => rfl) fx_no) (fx_cnd (fun _ _ _ _ _ _ _ _ => rfl) fx_no))) (fx_cnd (fx_cnd (fun _ _ _ _ _ _ _ _ => rfl) fx_no) (fx_cnd (fx_cnd (fun _ _ _ _ _ _ _ _ => rfl) fx_no) (fx_cnd (fun _ _ _ _ _ _ _ _ => rfl) fx_no))))
theorem fk_241_75 (X : ez_X) (pc : Nat) : fx_ok X (ft_241_75 X pc) (ez_t241_75 pc) := by
  delta ft_241_75 ez_t241_75
  exact fx_cnd (fk_241_73 X pc) (fk_241_74 X pc)
theorem fk_241_76 (X : ez_X) (pc : Nat) : fx_ok X (ft_241_76 X pc) (ez_t241_76 pc) := by
  delta ft_241_76 ez_t241_76
  exact fx_cnd (fk_241_72 X pc) (fk_241_75 X pc)
theorem fk_241_77 (X : ez_X) (pc : Nat) : fx_ok X (ft_241_77 X pc) (ez_t241_77 pc) := by
  delta ft_241_77 ez_t241_77
  exact fx_cnd (fk_241_69 X pc) (fk_241_76 X pc)
theorem fk_241_78 (X : ez_X) (pc : Nat) : fx_ok X (ft_241_78 X pc) (ez_t241_78 pc) := by
  delta ft_241_78 ez_t241_78
  exact fx_cnd (fx_cnd (fx_cnd (fx_cnd (fun _ _ _ _ _ _ _ _ => rfl) fx_no) (fx_cnd (fun _ _ _ _ _ _ _ _ => rfl) fx_no)) (fx_cnd (fx_cnd (fun _ _ _ _ _ _ _ _ => rfl) fx_no) (fx_cnd (fx_cnd (fun _ _ _ _ _ _ _ _ => rfl) fx_no) (fx_cnd (fun _ _ _ _ _ _ _ _ => rfl) fx_no)))) (fx_cnd (fx_cnd (fx_cnd (fun _ _ _ _ _ _ _ _ => rfl) fx_no) (fx_cnd (fx_cnd (fun _ _ _ _ _ _ _ _ => rfl) fx_no) (fx_cnd (fun _ _ _ _ _ _ _ _ => rfl) fx_no))) (fx_cnd (fx_cnd (fun _ _ _ _ _ _ _ _ => rfl) fx_no) (fx_cnd (fx_cnd (fun _ _ _ _ _ _ _ _ => rfl) fx_no) (fx_cnd (fun _ _ _ _ _ _ _ _ => rfl) fx_no))))
theorem fk_241_79 (X : ez_X) (pc : Nat) : fx_ok X (ft_241_79 X pc) (ez_t241_79 pc) := by
  delta ft_241_79 ez_t241_79
  exact fx_cnd (fx_cnd (fx_cnd (fx_cnd (fun _ _ _ _ _ _ _ _ => rfl) fx_no) (fx_cnd (fun _ _ _ _ _ _ _ _ => rfl) fx_no)) (fx_cnd (fx_cnd (fun _ _ _ _ _ _ _ _ => rfl) fx_no) (fx_cnd (fx_cnd (fun _ _ _ _ _ _ _ _ => rfl) fx_no) (fx_cnd (fun _ _ _ _ _ _ _ _ => rfl) fx_no)))) (fx_cnd (fx_cnd (fx_cnd (fun _ _ _ _ _ _ _ _ => rfl) fx_no) (fx_cnd (fx_cnd (fun _ _ _ _ _ _ _ _ => rfl) fx_no) (fx_cnd (fun _ _ _ _ _ _ _ _ => rfl) fx_no))) (fx_cnd (fx_cnd (fun _ _ _ _ _ _ _ _ => rfl) fx_no) (fx_cnd (fx_cnd (fun _ _ _ _ _ _ _ _ => rfl) fx_no) (fx_cnd (fun _ _ _ _ _ _ _ _ => rfl) fx_no))))
theorem fk_241_80 (X : ez_X) (pc : Nat) : fx_ok X (ft_241_80 X pc) (ez_t241_80 pc) := by
  delta ft_241_80 ez_t241_80
  exact fx_cnd (fk_241_78 X pc) (fk_241_79 X pc)
theorem fk_241_81 (X : ez_X) (pc : Nat) : fx_ok X (ft_241_81 X pc) (ez_t241_81 pc) := by
  delta ft_241_81 ez_t241_81
  exact fx_cnd (fx_cnd (fx_cnd (fx_cnd (fun _ _ _ _ _ _ _ _ => rfl) fx_no) (fx_cnd (fun _ _ _ _ _ _ _ _ => rfl) fx_no)) (fx_cnd (fx_cnd (fun _ _ _ _ _ _ _ _ => rfl) fx_no) (fx_cnd (fx_cnd (fun _ _ _ _ _ _ _ _ => rfl) fx_no) (fx_cnd (fun _ _ _ _ _ _ _ _ => rfl) fx_no)))) (fx_cnd (fx_cnd (fx_cnd (fun _ _ _ _ _ _ _ _ => rfl) fx_no) (fx_cnd (fx_cnd (fun _ _ _ _ _ _ _ _ => rfl) fx_no) (fx_cnd (fun _ _ _ _ _ _ _ _ => rfl) fx_no))) (fx_cnd (fx_cnd (fun _ _ _ _ _ _ _ _ => rfl) fx_no) (fx_cnd (fx_cnd (fun _ _ _ _ _ _ _ _ => rfl) fx_no) (fx_cnd (fun _ _ _ _ _ _ _ _ => rfl) fx_no))))
theorem fk_241_82 (X : ez_X) (pc : Nat) : fx_ok X (ft_241_82 X pc) (ez_t241_82 pc) := by
  delta ft_241_82 ez_t241_82
  exact fx_cnd (fx_cnd (fx_cnd (fx_cnd (fun _ _ _ _ _ _ _ _ => rfl) fx_no) (fx_cnd (fun _ _ _ _ _ _ _ _ => rfl) fx_no)) (fx_cnd (fx_cnd (fun _ _ _ _ _ _ _ _ => rfl) fx_no) (fx_cnd (fx_cnd (fun _ _ _ _ _ _ _ _ => rfl) fx_no) (fx_cnd (fun _ _ _ _ _ _ _ _ => rfl) fx_no)))) (fx_cnd (fx_cnd (fx_cnd (fun _ _ _ _ _ _ _ _ => rfl) fx_no) (fx_cnd (fx_cnd (fun _ _ _ _ _ _ _ _ => rfl) fx_no) (fx_cnd (fun _ _ _ _ _ _ _ _ => rfl) fx_no))) (fx_cnd (fx_cnd (fun _ _ _ _ _ _ _ _ => rfl) fx_no) (fx_cnd (fx_cnd (fun _ _ _ _ _ _ _ _ => rfl) fx_no) (fx_cnd (fun _ _ _ _ _ _ _ _ => rfl) fx_no))))
theorem fk_241_83 (X : ez_X) (pc : Nat) : fx_ok X (ft_241_83 X pc) (ez_t241_83 pc) := by
  delta ft_241_83 ez_t241_83
  exact fx_cnd (fk_241_81 X pc) (fk_241_82 X pc)
theorem fk_241_84 (X : ez_X) (pc : Nat) : fx_ok X (ft_241_84 X pc) (ez_t241_84 pc) := by
  delta ft_241_84 ez_t241_84
  exact fx_cnd (fk_241_80 X pc) (fk_241_83 X pc)
theorem fk_241_85 (X : ez_X) (pc : Nat) : fx_ok X (ft_241_85 X pc) (ez_t241_85 pc) := by
  delta ft_241_85 ez_t241_85
  exact fx_cnd (fx_cnd (fx_cnd (fx_cnd (fun _ _ _ _ _ _ _ _ => rfl) fx_no) (fx_cnd (fun _ _ _ _ _ _ _ _ => rfl) fx_no)) (fx_cnd (fx_cnd (fun _ _ _ _ _ _ _ _ => rfl) fx_no) (fx_cnd (fx_cnd (fun _ _ _ _ _ _ _ _ => rfl) fx_no) (fx_cnd (fun _ _ _ _ _ _ _ _ => rfl) fx_no)))) (fx_cnd (fx_cnd (fx_cnd (fun _ _ _ _ _ _ _ _ => rfl) fx_no) (fx_cnd (fx_cnd (fun _ _ _ _ _ _ _ _ => rfl) fx_no) (fx_cnd (fun _ _ _ _ _ _ _ _ => rfl) fx_no))) (fx_cnd (fx_cnd (fun _ _ _ _ _ _ _ _ => rfl) fx_no) (fx_cnd (fx_cnd (fun _ _ _ _ _ _ _ _ => rfl) fx_no) (fx_cnd (fun _ _ _ _ _ _ _ _ => rfl) fx_no))))
theorem fk_241_86 (X : ez_X) (pc : Nat) : fx_ok X (ft_241_86 X pc) (ez_t241_86 pc) := by
  delta ft_241_86 ez_t241_86
  exact fx_cnd (fx_cnd (fx_cnd (fx_cnd (fun _ _ _ _ _ _ _ _ => rfl) fx_no) (fx_cnd (fun _ _ _ _ _ _ _ _ => rfl) fx_no)) (fx_cnd (fx_cnd (fun _ _ _ _ _ _ _ _ => rfl) fx_no) (fx_cnd (fx_cnd (fun _ _ _ _ _ _ _ _ => rfl) fx_no) (fx_cnd (fun _ _ _ _ _ _ _ _ => rfl) fx_no)))) (fx_cnd (fx_cnd (fx_cnd (fun _ _ _ _ _ _ _ _ => rfl) fx_no) (fx_cnd (fx_cnd (fun _ _ _ _ _ _ _ _ => rfl) fx_no) (fx_cnd (fun _ _ _ _ _ _ _ _ => rfl) fx_no))) (fx_cnd (fx_cnd (fun _ _ _ _ _ _ _ _ => rfl) fx_no) (fx_cnd (fx_cnd (fun _ _ _ _ _ _ _ _ => rfl) fx_no) (fx_cnd (fun _ _ _ _ _ _ _ _ => rfl) fx_no))))
theorem fk_241_87 (X : ez_X) (pc : Nat) : fx_ok X (ft_241_87 X pc) (ez_t241_87 pc) := by
  delta ft_241_87 ez_t241_87
  exact fx_cnd (fk_241_85 X pc) (fk_241_86 X pc)
theorem fk_241_88 (X : ez_X) (pc : Nat) : fx_ok X (ft_241_88 X pc) (ez_t241_88 pc) := by
  delta ft_241_88 ez_t241_88
  exact fx_cnd (fx_cnd (fx_cnd (fx_cnd (fun _ _ _ _ _ _ _ _ => rfl) fx_no) (fx_cnd (fun _ _ _ _ _ _ _ _ => rfl) fx_no)) (fx_cnd (fx_cnd (fun _ _ _ _ _ _ _ _ => rfl) fx_no) (fx_cnd (fx_cnd (fun _ _ _ _ _ _ _ _ => rfl) fx_no) (fx_cnd (fun _ _ _ _ _ _ _ _ => rfl) fx_no)))) (fx_cnd (fx_cnd (fx_cnd (fun _ _ _ _ _ _ _ _ => rfl) fx_no) (fx_cnd (fx_cnd (fun _ _ _ _ _ _ _ _ => rfl) fx_no) (fx_cnd (fun _ _ _ _ _ _ _ _ => rfl) fx_no))) (fx_cnd (fx_cnd (fun _ _ _ _ _ _ _ _ => rfl) fx_no) (fx_cnd (fx_cnd (fun _ _ _ _ _ _ _ _ => rfl) fx_no) (fx_cnd (fun _ _ _ _ _ _ _ _ => rfl) fx_no))))
theorem fk_241_89 (X : ez_X) (pc : Nat) : fx_ok X (ft_241_89 X pc) (ez_t241_89 pc) := by
  delta ft_241_89 ez_t241_89
  exact fx_cnd (fx_cnd (fx_cnd (fx_cnd (fun _ _ _ _ _ _ _ _ => rfl) fx_no) (fx_cnd (fun _ _ _ _ _ _ _ _ => rfl) fx_no)) (fx_cnd (fx_cnd (fun _ _ _ _ _ _ _ _ => rfl) fx_no) (fx_cnd (fx_cnd (fun _ _ _ _ _ _ _ _ => rfl) fx_no) (fx_cnd (fun _ _ _ _ _ _ _ _ => rfl) fx_no)))) (fx_cnd (fx_cnd (fx_cnd (fun _ _ _ _ _ _ _ _ => rfl) fx_no) (fx_cnd (fx_cnd (fun _ _ _ _ _ _ _ _ => rfl) fx_no) (fx_cnd (fun _ _ _ _ _ _ _ _ => rfl) fx_no))) (fx_cnd (fx_cnd (fun _ _ _ _ _ _ _ _ => rfl) fx_no) (fx_cnd (fx_cnd (fun _ _ _ _ _ _ _ _ => rfl) fx_no) (fx_cnd (fun _ _ _ _ _ _ _ _ => rfl) fx_no))))
theorem fk_241_90 (X : ez_X) (pc : Nat) : fx_ok X (ft_241_90 X pc) (ez_t241_90 pc) := by
  delta ft_241_90 ez_t241_90
  exact fx_cnd (fk_241_88 X pc) (fk_241_89 X pc)
theorem fk_241_91 (X : ez_X) (pc : Nat) : fx_ok X (ft_241_91 X pc) (ez_t241_91 pc) := by
  delta ft_241_91 ez_t241_91
  exact fx_cnd (fk_241_87 X pc) (fk_241_90 X pc)
theorem fk_241_92 (X : ez_X) (pc : Nat) : fx_ok X (ft_241_92 X pc) (ez_t241_92 pc) := by
  delta ft_241_92 ez_t241_92
  exact fx_cnd (fk_241_84 X pc) (fk_241_91 X pc)
theorem fk_241_93 (X : ez_X) (pc : Nat) : fx_ok X (ft_241_93 X pc) (ez_t241_93 pc) := by
  delta ft_241_93 ez_t241_93
  exact fx_cnd (fk_241_77 X pc) (fk_241_92 X pc)
theorem fk_241_94 (X : ez_X) (pc : Nat) : fx_ok X (ft_241_94 X pc) (ez_t241_94 pc) := by
  delta ft_241_94 ez_t241_94
  exact fx_cnd (fx_cnd (fx_cnd (fx_cnd (fun _ _ _ _ _ _ _ _ => rfl) fx_no) (fx_cnd (fun _ _ _ _ _ _ _ _ => rfl) fx_no)) (fx_cnd (fx_cnd (fun _ _ _ _ _ _ _ _ => rfl) fx_no) (fx_cnd (fx_cnd (fun _ _ _ _ _ _ _ _ => rfl) fx_no) (fx_cnd (fun _ _ _ _ _ _ _ _ => rfl) fx_no)))) (fx_cnd (fx_cnd (fx_cnd (fun _ _ _ _ _ _ _ _ => rfl) fx_no) (fx_cnd (fx_cnd (fun _ _ _ _ _ _ _ _ => rfl) fx_no) (fx_cnd (fun _ _ _ _ _ _ _ _ => rfl) fx_no))) (fx_cnd (fx_cnd (fun _ _ _ _ _ _ _ _ => rfl) fx_no) (fx_cnd (fx_cnd (fun _ _ _ _ _ _ _ _ => rfl) fx_no) (fx_cnd (fun _ _ _ _ _ _ _ _ => rfl) fx_no))))
theorem fk_241_95 (X : ez_X) (pc : Nat) : fx_ok X (ft_241_95 X pc) (ez_t241_95 pc) := by
  delta ft_241_95 ez_t241_95
  exact fx_cnd (fx_cnd (fx_cnd (fx_cnd (fun _ _ _ _ _ _ _ _ => rfl) fx_no) (fx_cnd (fun _ _ _ _ _ _ _ _ => rfl) fx_no)) (fx_cnd (fx_cnd (fun _ _ _ _ _ _ _ _ => rfl) fx_no) (fx_cnd (fx_cnd (fun _ _ _ _ _ _ _ _ => rfl) fx_no) (fx_cnd (fun _ _ _ _ _ _ _ _ => rfl) fx_no)))) (fx_cnd (fx_cnd (fx_cnd (fun _ _ _ _ _ _ _ _ => rfl) fx_no) (fx_cnd (fx_cnd (fun _ _ _ _ _ _ _ _ => rfl) fx_no) (fx_cnd (fun _ _ _ _ _ _ _ _ => rfl) fx_no))) (fx_cnd (fx_cnd (fun _ _ _ _ _ _ _ _ => rfl) fx_no) (fx_cnd (fx_cnd (fun _ _ _ _ _ _ _ _ => rfl) fx_no) (fx_cnd (fun _ _ _ _ _ _ _ _ => rfl) fx_no))))
theorem fk_241_96 (X : ez_X) (pc : Nat) : fx_ok X (ft_241_96 X pc) (ez_t241_96 pc) := by
  delta ft_241_96 ez_t241_96
  exact fx_cnd (fk_241_94 X pc) (fk_241_95 X pc)
theorem fk_241_97 (X : ez_X) (pc : Nat) : fx_ok X (ft_241_97 X pc) (ez_t241_97 pc) := by
  delta ft_241_97 ez_t241_97
  exact fx_cnd (fx_cnd (fx_cnd (fx_cnd (fun _ _ _ _ _ _ _ _ => rfl) fx_no) (fx_cnd (fun _ _ _ _ _ _ _ _ => rfl) fx_no)) (fx_cnd (fx_cnd (fun _ _ _ _ _ _ _ _ => rfl) fx_no) (fx_cnd (fx_cnd (fun _ _ _ _ _ _ _ _ => rfl) fx_no) (fx_cnd (fun _ _ _ _ _ _ _ _ => rfl) fx_no)))) (fx_cnd (fx_cnd (fx_cnd (fun _ _ _ _ _ _ _ _ => rfl) fx_no) (fx_cnd (fx_cnd (fun _ _ _ _ _ _ _ _ => rfl) fx_no) (fx_cnd (fun _ _ _ _ _ _ _ _ => rfl) fx_no))) (fx_cnd (fx_cnd (fun _ _ _ _ _ _ _ _ => rfl) fx_no) (fx_cnd (fx_cnd (fun _ _ _ _ _ _ _ _ => rfl) fx_no) (fx_cnd (fun _ _ _ _ _ _ _ _ => rfl) fx_no))))
theorem fk_241_98 (X : ez_X) (pc : Nat) : fx_ok X (ft_241_98 X pc) (ez_t241_98 pc) := by
  delta ft_241_98 ez_t241_98
  exact fx_cnd (fx_cnd (fx_cnd (fx_cnd (fun _ _ _ _ _ _ _ _ => rfl) fx_no) (fx_cnd (fun _ _ _ _ _ _ _ _ => rfl) fx_no)) (fx_cnd (fx_cnd (fun _ _ _ _ _ _ _ _ => rfl) fx_no) (fx_cnd (fx_cnd (fun _ _ _ _ _ _ _ _ => rfl) fx_no) (fx_cnd (fun _ _ _ _ _ _ _ _ => rfl) fx_no)))) (fx_cnd (fx_cnd (fx_cnd (fun _ _ _ _ _ _ _ _ => rfl) fx_no) (fx_cnd (fx_cnd (fun _ _ _ _ _ _ _ _ => rfl) fx_no) (fx_cnd (fun _ _ _ _ _ _ _ _ => rfl) fx_no))) (fx_cnd (fx_cnd (fun _ _ _ _ _ _ _ _ => rfl) fx_no) (fx_cnd (fx_cnd (fun _ _ _ _ _ _ _ _ => rfl) fx_no) (fx_cnd (fun _ _ _ _ _ _ _ _ => rfl) fx_no))))
theorem fk_241_99 (X : ez_X) (pc : Nat) : fx_ok X (ft_241_99 X pc) (ez_t241_99 pc) := by
  delta ft_241_99 ez_t241_99
  exact fx_cnd (fk_241_97 X pc) (fk_241_98 X pc)
theorem fk_241_100 (X : ez_X) (pc : Nat) : fx_ok X (ft_241_100 X pc) (ez_t241_100 pc) := by
  delta ft_241_100 ez_t241_100
  exact fx_cnd (fk_241_96 X pc) (fk_241_99 X pc)
theorem fk_241_101 (X : ez_X) (pc : Nat) : fx_ok X (ft_241_101 X pc) (ez_t241_101 pc) := by
  delta ft_241_101 ez_t241_101
  exact fx_cnd (fx_cnd (fx_cnd (fx_cnd (fun _ _ _ _ _ _ _ _ => rfl) fx_no) (fx_cnd (fun _ _ _ _ _ _ _ _ => rfl) fx_no)) (fx_cnd (fx_cnd (fun _ _ _ _ _ _ _ _ => rfl) fx_no) (fx_cnd (fx_cnd (fun _ _ _ _ _ _ _ _ => rfl) fx_no) (fx_cnd (fun _ _ _ _ _ _ _ _ => rfl) fx_no)))) (fx_cnd (fx_cnd (fx_cnd (fun _ _ _ _ _ _ _ _ => rfl) fx_no) (fx_cnd (fx_cnd (fun _ _ _ _ _ _ _ _ => rfl) fx_no) (fx_cnd (fun _ _ _ _ _ _ _ _ => rfl) fx_no))) (fx_cnd (fx_cnd (fun _ _ _ _ _ _ _ _ => rfl) fx_no) (fx_cnd (fx_cnd (fun _ _ _ _ _ _ _ _ => rfl) fx_no) (fx_cnd (fun _ _ _ _ _ _ _ _ => rfl) fx_no))))
theorem fk_241_102 (X : ez_X) (pc : Nat) : fx_ok X (ft_241_102 X pc) (ez_t241_102 pc) := by
  delta ft_241_102 ez_t241_102
  exact fx_cnd (fx_cnd (fx_cnd (fx_cnd (fun _ _ _ _ _ _ _ _ => rfl) fx_no) (fx_cnd (fun _ _ _ _ _ _ _ _ => rfl) fx_no)) (fx_cnd (fx_cnd (fun _ _ _ _ _ _ _ _ => rfl) fx_no) (fx_cnd (fx_cnd (fun _ _ _ _ _ _ _ _ => rfl) fx_no) (fx_cnd (fun _ _ _ _ _ _ _ _ => rfl) fx_no)))) (fx_cnd (fx_cnd (fx_cnd (fun _ _ _ _ _ _ _ _ => rfl) fx_no) (fx_cnd (fx_cnd (fun _ _ _ _ _ _ _ _ => rfl) fx_no) (fx_cnd (fun _ _ _ _ _ _ _ _ => rfl) fx_no))) (fx_cnd (fx_cnd (fun _ _ _ _ _ _ _ _ => rfl) fx_no) (fx_cnd (fx_cnd (fun _ _ _ _ _ _ _ _ => rfl) fx_no) (fx_cnd (fun _ _ _ _ _ _ _ _ => rfl) fx_no))))
theorem fk_241_103 (X : ez_X) (pc : Nat) : fx_ok X (ft_241_103 X pc) (ez_t241_103 pc) := by
  delta ft_241_103 ez_t241_103
  exact fx_cnd (fk_241_101 X pc) (fk_241_102 X pc)
theorem fk_241_104 (X : ez_X) (pc : Nat) : fx_ok X (ft_241_104 X pc) (ez_t241_104 pc) := by
  delta ft_241_104 ez_t241_104
  exact fx_cnd (fx_cnd (fx_cnd (fx_cnd (fun _ _ _ _ _ _ _ _ => rfl) fx_no) (fx_cnd (fun _ _ _ _ _ _ _ _ => rfl) fx_no)) (fx_cnd (fx_cnd (fun _ _ _ _ _ _ _ _ => rfl) fx_no) (fx_cnd (fx_cnd (fun _ _ _ _ _ _ _ _ => rfl) fx_no) (fx_cnd (fun _ _ _ _ _ _ _ _ => rfl) fx_no)))) (fx_cnd (fx_cnd (fx_cnd (fun _ _ _ _ _ _ _ _ => rfl) fx_no) (fx_cnd (fx_cnd (fun _ _ _ _ _ _ _ _ => rfl) fx_no) (fx_cnd (fun _ _ _ _ _ _ _ _ => rfl) fx_no))) (fx_cnd (fx_cnd (fun _ _ _ _ _ _ _ _ => rfl) fx_no) (fx_cnd (fx_cnd (fun _ _ _ _ _ _ _ _ => rfl) fx_no) (fx_cnd (fun _ _ _ _ _ _ _ _ => rfl) fx_no))))
theorem fk_241_105 (X : ez_X) (pc : Nat) : fx_ok X (ft_241_105 X pc) (ez_t241_105 pc) := by
  delta ft_241_105 ez_t241_105
  exact fx_cnd (fx_cnd (fx_cnd (fx_cnd (fun _ _ _ _ _ _ _ _ => rfl) fx_no) (fx_cnd (fun _ _ _ _ _ _ _ _ => rfl) fx_no)) (fx_cnd (fx_cnd (fun _ _ _ _ _ _ _ _ => rfl) fx_no) (fx_cnd (fx_cnd (fun _ _ _ _ _ _ _ _ => rfl) fx_no) (fx_cnd (fun _ _ _ _ _ _ _ _ => rfl) fx_no)))) (fx_cnd (fx_cnd (fx_cnd (fun _ _ _ _ _ _ _ _ => rfl) fx_no) (fx_cnd (fx_cnd (fun _ _ _ _ _ _ _ _ => rfl) fx_no) (fx_cnd (fun _ _ _ _ _ _ _ _ => rfl) fx_no))) (fx_cnd (fx_cnd (fun _ _ _ _ _ _ _ _ => rfl) fx_no) (fx_cnd (fx_cnd (fun _ _ _ _ _ _ _ _ => rfl) fx_no) (fx_cnd (fun _ _ _ _ _ _ _ _ => rfl) fx_no))))
theorem fk_241_106 (X : ez_X) (pc : Nat) : fx_ok X (ft_241_106 X pc) (ez_t241_106 pc) := by
  delta ft_241_106 ez_t241_106
  exact fx_cnd (fk_241_104 X pc) (fk_241_105 X pc)
theorem fk_241_107 (X : ez_X) (pc : Nat) : fx_ok X (ft_241_107 X pc) (ez_t241_107 pc) := by
  delta ft_241_107 ez_t241_107
  exact fx_cnd (fk_241_103 X pc) (fk_241_106 X pc)
theorem fk_241_108 (X : ez_X) (pc : Nat) : fx_ok X (ft_241_108 X pc) (ez_t241_108 pc) := by
  delta ft_241_108 ez_t241_108
  exact fx_cnd (fk_241_100 X pc) (fk_241_107 X pc)
theorem fk_241_109 (X : ez_X) (pc : Nat) : fx_ok X (ft_241_109 X pc) (ez_t241_109 pc) := by
  delta ft_241_109 ez_t241_109
  exact fx_cnd (fx_cnd (fx_cnd (fx_cnd (fun _ _ _ _ _ _ _ _ => rfl) fx_no) (fx_cnd (fun _ _ _ _ _ _ _ _ => rfl) fx_no)) (fx_cnd (fx_cnd (fun _ _ _ _ _ _ _ _ => rfl) fx_no) (fx_cnd (fx_cnd (fun _ _ _ _ _ _ _ _ => rfl) fx_no) (fx_cnd (fun _ _ _ _ _ _ _ _ => rfl) fx_no)))) (fx_cnd (fx_cnd (fx_cnd (fun _ _ _ _ _ _ _ _ => rfl) fx_no) (fx_cnd (fx_cnd (fun _ _ _ _ _ _ _ _ => rfl) fx_no) (fx_cnd (fun _ _ _ _ _ _ _ _ => rfl) fx_no))) (fx_cnd (fx_cnd (fun _ _ _ _ _ _ _ _ => rfl) fx_no) (fx_cnd (fx_cnd (fun _ _ _ _ _ _ _ _ => rfl) fx_no) (fx_cnd (fun _ _ _ _ _ _ _ _ => rfl) fx_no))))
theorem fk_241_110 (X : ez_X) (pc : Nat) : fx_ok X (ft_241_110 X pc) (ez_t241_110 pc) := by
  delta ft_241_110 ez_t241_110
  exact fx_cnd (fx_cnd (fx_cnd (fx_cnd (fun _ _ _ _ _ _ _ _ => rfl) fx_no) (fx_cnd (fun _ _ _ _ _ _ _ _ => rfl) fx_no)) (fx_cnd (fx_cnd (fun _ _ _ _ _ _ _ _ => rfl) fx_no) (fx_cnd (fx_cnd (fun _ _ _ _ _ _ _ _ => rfl) fx_no) (fx_cnd (fun _ _ _ _ _ _ _ _ => rfl) fx_no)))) (fx_cnd (fx_cnd (fx_cnd (fun _ _ _ _ _ _ _ _ => rfl) fx_no) (fx_cnd (fx_cnd (fun _ _ _ _ _ _ _ _ => rfl) fx_no) (fx_cnd (fun _ _ _ _ _ _ _ _ => rfl) fx_no))) (fx_cnd (fx_cnd (fun _ _ _ _ _ _ _ _ => rfl) fx_no) (fx_cnd (fx_cnd (fun _ _ _ _ _ _ _ _ => rfl) fx_no) (fx_cnd (fun _ _ _ _ _ _ _ _ => rfl) fx_no))))
theorem fk_241_111 (X : ez_X) (pc : Nat) : fx_ok X (ft_241_111 X pc) (ez_t241_111 pc) := by
  delta ft_241_111 ez_t241_111
  exact fx_cnd (fk_241_109 X pc) (fk_241_110 X pc)
theorem fk_241_112 (X : ez_X) (pc : Nat) : fx_ok X (ft_241_112 X pc) (ez_t241_112 pc) := by
  delta ft_241_112 ez_t241_112
  exact fx_cnd (fx_cnd (fx_cnd (fx_cnd (fun _ _ _ _ _ _ _ _ => rfl) fx_no) (fx_cnd (fun _ _ _ _ _ _ _ _ => rfl) fx_no)) (fx_cnd (fx_cnd (fun _ _ _ _ _ _ _ _ => rfl) fx_no) (fx_cnd (fx_cnd (fun _ _ _ _ _ _ _ _ => rfl) fx_no) (fx_cnd (fun _ _ _ _ _ _ _ _ => rfl) fx_no)))) (fx_cnd (fx_cnd (fx_cnd (fun _ _ _ _ _ _ _ _ => rfl) fx_no) (fx_cnd (fx_cnd (fun _ _ _ _ _ _ _ _ => rfl) fx_no) (fx_cnd (fun _ _ _ _ _ _ _ _ => rfl) fx_no))) (fx_cnd (fx_cnd (fun _ _ _ _ _ _ _ _ => rfl) fx_no) (fx_cnd (fx_cnd (fun _ _ _ _ _ _ _ _ => rfl) fx_no) (fx_cnd (fun _ _ _ _ _ _ _ _ => rfl) fx_no))))
theorem fk_241_113 (X : ez_X) (pc : Nat) : fx_ok X (ft_241_113 X pc) (ez_t241_113 pc) := by
  delta ft_241_113 ez_t241_113
  exact fx_cnd (fx_cnd (fx_cnd (fx_cnd (fun _ _ _ _ _ _ _ _ => rfl) fx_no) (fx_cnd (fun _ _ _ _ _ _ _ _ => rfl) fx_no)) (fx_cnd (fx_cnd (fun _ _ _ _ _ _ _ _ => rfl) fx_no) (fx_cnd (fx_cnd (fun _ _ _ _ _ _ _ _ => rfl) fx_no) (fx_cnd (fun _ _ _ _ _ _ _ _ => rfl) fx_no)))) (fx_cnd (fx_cnd (fx_cnd (fun _ _ _ _ _ _ _ _ => rfl) fx_no) (fx_cnd (fx_cnd (fun _ _ _ _ _ _ _ _ => rfl) fx_no) (fx_cnd (fun _ _ _ _ _ _ _ _ => rfl) fx_no))) (fx_cnd (fx_cnd (fun _ _ _ _ _ _ _ _ => rfl) fx_no) (fx_cnd (fx_cnd (fun _ _ _ _ _ _ _ _ => rfl) fx_no) (fx_cnd (fun _ _ _ _ _ _ _ _ => rfl) fx_no))))
theorem fk_241_114 (X : ez_X) (pc : Nat) : fx_ok X (ft_241_114 X pc) (ez_t241_114 pc) := by
  delta ft_241_114 ez_t241_114
  exact fx_cnd (fk_241_112 X pc) (fk_241_113 X pc)
theorem fk_241_115 (X : ez_X) (pc : Nat) : fx_ok X (ft_241_115 X pc) (ez_t241_115 pc) := by
  delta ft_241_115 ez_t241_115
  exact fx_cnd (fk_241_111 X pc) (fk_241_114 X pc)
theorem fk_241_116 (X : ez_X) (pc : Nat) : fx_ok X (ft_241_116 X pc) (ez_t241_116 pc) := by
  delta ft_241_116 ez_t241_116
  exact fx_cnd (fx_cnd (fx_cnd (fx_cnd (fun _ _ _ _ _ _ _ _ => rfl) fx_no) (fx_cnd (fun _ _ _ _ _ _ _ _ => rfl) fx_no)) (fx_cnd (fx_cnd (fun _ _ _ _ _ _ _ _ => rfl) fx_no) (fx_cnd (fx_cnd (fun _ _ _ _ _ _ _ _ => rfl) fx_no) (fx_cnd (fun _ _ _ _ _ _ _ _ => rfl) fx_no)))) (fx_cnd (fx_cnd (fx_cnd (fun _ _ _ _ _ _ _ _ => rfl) fx_no) (fx_cnd (fx_cnd (fun _ _ _ _ _ _ _ _ => rfl) fx_no) (fx_cnd (fun _ _ _ _ _ _ _ _ => rfl) fx_no))) (fx_cnd (fx_cnd (fun _ _ _ _ _ _ _ _ => rfl) fx_no) (fx_cnd (fx_cnd (fun _ _ _ _ _ _ _ _ => rfl) fx_no) (fx_cnd (fun _ _ _ _ _ _ _ _ => rfl) fx_no))))
theorem fk_241_117 (X : ez_X) (pc : Nat) : fx_ok X (ft_241_117 X pc) (ez_t241_117 pc) := by
  delta ft_241_117 ez_t241_117
  exact fx_cnd (fx_cnd (fx_cnd (fx_cnd (fun _ _ _ _ _ _ _ _ => rfl) fx_no) (fx_cnd (fun _ _ _ _ _ _ _ _ => rfl) fx_no)) (fx_cnd (fx_cnd (fun _ _ _ _ _ _ _ _ => rfl) fx_no) (fx_cnd (fx_cnd (fun _ _ _ _ _ _ _ _ => rfl) fx_no) (fx_cnd (fun _ _ _ _ _ _ _ _ => rfl) fx_no)))) (fx_cnd (fx_cnd (fx_cnd (fun _ _ _ _ _ _ _ _ => rfl) fx_no) (fx_cnd (fx_cnd (fun _ _ _ _ _ _ _ _ => rfl) fx_no) (fx_cnd (fun _ _ _ _ _ _ _ _ => rfl) fx_no))) (fx_cnd (fx_cnd (fun _ _ _ _ _ _ _ _ => rfl) fx_no) (fx_cnd (fx_cnd (fun _ _ _ _ _ _ _ _ => rfl) fx_no) (fx_cnd (fun _ _ _ _ _ _ _ _ => rfl) fx_no))))
theorem fk_241_118 (X : ez_X) (pc : Nat) : fx_ok X (ft_241_118 X pc) (ez_t241_118 pc) := by
  delta ft_241_118 ez_t241_118
  exact fx_cnd (fk_241_116 X pc) (fk_241_117 X pc)
theorem fk_241_119 (X : ez_X) (pc : Nat) : fx_ok X (ft_241_119 X pc) (ez_t241_119 pc) := by
  delta ft_241_119 ez_t241_119
  exact fx_cnd (fx_cnd (fx_cnd (fx_cnd (fun _ _ _ _ _ _ _ _ => rfl) fx_no) (fx_cnd (fun _ _ _ _ _ _ _ _ => rfl) fx_no)) (fx_cnd (fx_cnd (fun _ _ _ _ _ _ _ _ => rfl) fx_no) (fx_cnd (fx_cnd (fun _ _ _ _ _ _ _ _ => rfl) fx_no) (fx_cnd (fun _ _ _ _ _ _ _ _ => rfl) fx_no)))) (fx_cnd (fx_cnd (fx_cnd (fun _ _ _ _ _ _ _ _ => rfl) fx_no) (fx_cnd (fx_cnd (fun _ _ _ _ _ _ _ _ => rfl) fx_no) (fx_cnd (fun _ _ _ _ _ _ _ _ => rfl) fx_no))) (fx_cnd (fx_cnd (fun _ _ _ _ _ _ _ _ => rfl) fx_no) (fx_cnd (fx_cnd (fun _ _ _ _ _ _ _ _ => rfl) fx_no) (fx_cnd (fun _ _ _ _ _ _ _ _ => rfl) fx_no))))
theorem fk_241_120 (X : ez_X) (pc : Nat) : fx_ok X (ft_241_120 X pc) (ez_t241_120 pc) := by
  delta ft_241_120 ez_t241_120
  exact fx_cnd (fx_cnd (fx_cnd (fx_cnd (fun _ _ _ _ _ _ _ _ => rfl) fx_no) (fx_cnd (fun _ _ _ _ _ _ _ _ => rfl) fx_no)) (fx_cnd (fx_cnd (fun _ _ _ _ _ _ _ _ => rfl) fx_no) (fx_cnd (fx_cnd (fun _ _ _ _ _ _ _ _ => rfl) fx_no) (fx_cnd (fun _ _ _ _ _ _ _ _ => rfl) fx_no)))) (fx_cnd (fx_cnd (fx_cnd (fun _ _ _ _ _ _ _ _ => rfl) fx_no) (fx_cnd (fx_cnd (fun _ _ _ _ _ _ _ _ => rfl) fx_no) (fx_cnd (fun _ _ _ _ _ _ _ _ => rfl) fx_no))) (fx_cnd (fx_cnd (fun _ _ _ _ _ _ _ _ => rfl) fx_no) (fx_cnd (fx_cnd (fun _ _ _ _ _ _ _ _ => rfl) fx_no) (fx_cnd (fun _ _ _ _ _ _ _ _ => rfl) fx_no))))
theorem fk_241_121 (X : ez_X) (pc : Nat) : fx_ok X (ft_241_121 X pc) (ez_t241_121 pc) := by
  delta ft_241_121 ez_t241_121
  exact fx_cnd (fk_241_119 X pc) (fk_241_120 X pc)
theorem fk_241_122 (X : ez_X) (pc : Nat) : fx_ok X (ft_241_122 X pc) (ez_t241_122 pc) := by
  delta ft_241_122 ez_t241_122
  exact fx_cnd (fk_241_118 X pc) (fk_241_121 X pc)
theorem fk_241_123 (X : ez_X) (pc : Nat) : fx_ok X (ft_241_123 X pc) (ez_t241_123 pc) := by
  delta ft_241_123 ez_t241_123
  exact fx_cnd (fk_241_115 X pc) (fk_241_122 X pc)
theorem fk_241_124 (X : ez_X) (pc : Nat) : fx_ok X (ft_241_124 X pc) (ez_t241_124 pc) := by
  delta ft_241_124 ez_t241_124
  exact fx_cnd (fk_241_108 X pc) (fk_241_123 X pc)
theorem fk_241_125 (X : ez_X) (pc : Nat) : fx_ok X (ft_241_125 X pc) (ez_t241_125 pc) := by
  delta ft_241_125 ez_t241_125
  exact fx_cnd (fk_241_93 X pc) (fk_241_124 X pc)
theorem fk_241 (X : ez_X) (pc : Nat) : fx_ok X (ft_241 X pc) (ez_t241 pc) := by
  delta ft_241 ez_t241
  exact fx_cnd (fk_241_62 X pc) (fk_241_125 X pc)
theorem fk_P_0 (X : ez_X) (m : Nat) : fx_okP X (ft_P_0 X m) (ez_P0_0 m) := by
  delta ft_P_0 ez_P0_0
  exact fx_cndP (fx_cndP (fx_gok (fk_0 X)) (fx_cndP (fx_gok (fk_1 X)) (fx_gok (fk_2 X)))) (fx_cndP (fx_cndP (fx_gok (fk_3 X)) (fx_gok (fk_4 X))) (fx_cndP (fx_gok (fk_5 X)) (fx_gok (fk_6 X))))
theorem fk_P_1 (X : ez_X) (m : Nat) : fx_okP X (ft_P_1 X m) (ez_P0_1 m) := by
  delta ft_P_1 ez_P0_1
  exact fx_cndP (fx_cndP (fx_cndP (fx_gok (fk_7 X)) (fx_gok (fk_8 X))) (fx_cndP (fx_gok (fk_9 X)) (fx_gok (fk_10 X)))) (fx_cndP (fx_cndP (fx_gok (fk_11 X)) (fx_gok (fk_12 X))) (fx_cndP (fx_gok (fk_13 X)) (fx_gok (fk_14 X))))
theorem fk_P_2 (X : ez_X) (m : Nat) : fx_okP X (ft_P_2 X m) (ez_P0_2 m) := by
  delta ft_P_2 ez_P0_2
  exact fx_cndP (fk_P_0 X m) (fk_P_1 X m)
theorem fk_P_3 (X : ez_X) (m : Nat) : fx_okP X (ft_P_3 X m) (ez_P0_3 m) := by
  delta ft_P_3 ez_P0_3
  exact fx_cndP (fx_cndP (fx_gok (fk_15 X)) (fx_cndP (fx_gok (fk_16 X)) (fx_gok (fk_17 X)))) (fx_cndP (fx_cndP (fx_gok (fk_18 X)) (fx_gok (fk_19 X))) (fx_cndP (fx_gok (fk_20 X)) (fx_gok (fk_21 X))))
theorem fk_P_4 (X : ez_X) (m : Nat) : fx_okP X (ft_P_4 X m) (ez_P0_4 m) := by
  delta ft_P_4 ez_P0_4
  exact fx_cndP (fx_cndP (fx_cndP (fx_gok (fk_22 X)) (fx_gok (fk_23 X))) (fx_cndP (fx_gok (fk_24 X)) (fx_gok (fk_25 X)))) (fx_cndP (fx_cndP (fx_gok (fk_26 X)) (fx_gok (fk_27 X))) (fx_cndP (fx_gok (fk_28 X)) (fx_gok (fk_29 X))))
theorem fk_P_5 (X : ez_X) (m : Nat) : fx_okP X (ft_P_5 X m) (ez_P0_5 m) := by
  delta ft_P_5 ez_P0_5
  exact fx_cndP (fk_P_3 X m) (fk_P_4 X m)
theorem fk_P_6 (X : ez_X) (m : Nat) : fx_okP X (ft_P_6 X m) (ez_P0_6 m) := by
  delta ft_P_6 ez_P0_6
  exact fx_cndP (fk_P_2 X m) (fk_P_5 X m)
theorem fk_P_7 (X : ez_X) (m : Nat) : fx_okP X (ft_P_7 X m) (ez_P0_7 m) := by
  delta ft_P_7 ez_P0_7
  exact fx_cndP (fx_cndP (fx_gok (fk_30 X)) (fx_cndP (fx_gok (fk_31 X)) (fx_gok (fk_32 X)))) (fx_cndP (fx_cndP (fx_gok (fk_33 X)) (fx_gok (fk_34 X))) (fx_cndP (fx_gok (fk_35 X)) (fx_gok (fk_36 X))))
theorem fk_P_8 (X : ez_X) (m : Nat) : fx_okP X (ft_P_8 X m) (ez_P0_8 m) := by
  delta ft_P_8 ez_P0_8
  exact fx_cndP (fx_cndP (fx_cndP (fx_gok (fk_37 X)) (fx_gok (fk_38 X))) (fx_cndP (fx_gok (fk_39 X)) (fx_gok (fk_40 X)))) (fx_cndP (fx_cndP (fx_gok (fk_41 X)) (fx_gok (fk_42 X))) (fx_cndP (fx_gok (fk_43 X)) (fx_gok (fk_44 X))))
theorem fk_P_9 (X : ez_X) (m : Nat) : fx_okP X (ft_P_9 X m) (ez_P0_9 m) := by
  delta ft_P_9 ez_P0_9
  exact fx_cndP (fk_P_7 X m) (fk_P_8 X m)
theorem fk_P_10 (X : ez_X) (m : Nat) : fx_okP X (ft_P_10 X m) (ez_P0_10 m) := by
  delta ft_P_10 ez_P0_10
  exact fx_cndP (fx_cndP (fx_gok (fk_45 X)) (fx_cndP (fx_gok (fk_46 X)) (fx_gok (fk_47 X)))) (fx_cndP (fx_cndP (fx_gok (fk_48 X)) (fx_gok (fk_49 X))) (fx_cndP (fx_gok (fk_50 X)) (fx_gok (fk_51 X))))
theorem fk_P_11 (X : ez_X) (m : Nat) : fx_okP X (ft_P_11 X m) (ez_P0_11 m) := by
  delta ft_P_11 ez_P0_11
  exact fx_cndP (fx_cndP (fx_cndP (fx_gok (fk_52 X)) (fx_gok (fk_53 X))) (fx_cndP (fx_gok (fk_54 X)) (fx_gok (fk_55 X)))) (fx_cndP (fx_cndP (fx_gok (fk_56 X)) (fx_gok (fk_57 X))) (fx_cndP (fx_gok (fk_58 X)) (fx_gok (fk_59 X))))
theorem fk_P_12 (X : ez_X) (m : Nat) : fx_okP X (ft_P_12 X m) (ez_P0_12 m) := by
  delta ft_P_12 ez_P0_12
  exact fx_cndP (fk_P_10 X m) (fk_P_11 X m)
theorem fk_P_13 (X : ez_X) (m : Nat) : fx_okP X (ft_P_13 X m) (ez_P0_13 m) := by
  delta ft_P_13 ez_P0_13
  exact fx_cndP (fk_P_9 X m) (fk_P_12 X m)
theorem fk_P_14 (X : ez_X) (m : Nat) : fx_okP X (ft_P_14 X m) (ez_P0_14 m) := by
  delta ft_P_14 ez_P0_14
  exact fx_cndP (fk_P_6 X m) (fk_P_13 X m)
theorem fk_P_15 (X : ez_X) (m : Nat) : fx_okP X (ft_P_15 X m) (ez_P0_15 m) := by
  delta ft_P_15 ez_P0_15
  exact fx_cndP (fx_cndP (fx_gok (fk_60 X)) (fx_cndP (fx_gok (fk_61 X)) (fx_gok (fk_62 X)))) (fx_cndP (fx_cndP (fx_gok (fk_63 X)) (fx_gok (fk_64 X))) (fx_cndP (fx_gok (fk_65 X)) (fx_gok (fk_66 X))))
theorem fk_P_16 (X : ez_X) (m : Nat) : fx_okP X (ft_P_16 X m) (ez_P0_16 m) := by
  delta ft_P_16 ez_P0_16
  exact fx_cndP (fx_cndP (fx_cndP (fx_gok (fk_67 X)) (fx_gok (fk_68 X))) (fx_cndP (fx_gok (fk_69 X)) (fx_gok (fk_70 X)))) (fx_cndP (fx_cndP (fx_gok (fk_71 X)) (fx_gok (fk_72 X))) (fx_cndP (fx_gok (fk_73 X)) (fx_gok (fk_74 X))))
theorem fk_P_17 (X : ez_X) (m : Nat) : fx_okP X (ft_P_17 X m) (ez_P0_17 m) := by
  delta ft_P_17 ez_P0_17
  exact fx_cndP (fk_P_15 X m) (fk_P_16 X m)
theorem fk_P_18 (X : ez_X) (m : Nat) : fx_okP X (ft_P_18 X m) (ez_P0_18 m) := by
  delta ft_P_18 ez_P0_18
  exact fx_cndP (fx_cndP (fx_gok (fk_75 X)) (fx_cndP (fx_gok (fk_76 X)) (fx_gok (fk_77 X)))) (fx_cndP (fx_cndP (fx_gok (fk_78 X)) (fx_gok (fk_79 X))) (fx_cndP (fx_gok (fk_80 X)) (fx_gok (fk_81 X))))
theorem fk_P_19 (X : ez_X) (m : Nat) : fx_okP X (ft_P_19 X m) (ez_P0_19 m) := by
  delta ft_P_19 ez_P0_19
  exact fx_cndP (fx_cndP (fx_cndP (fx_gok (fk_82 X)) (fx_gok (fk_83 X))) (fx_cndP (fx_gok (fk_84 X)) (fx_gok (fk_85 X)))) (fx_cndP (fx_cndP (fx_gok (fk_86 X)) (fx_gok (fk_87 X))) (fx_cndP (fx_gok (fk_88 X)) (fx_gok (fk_89 X))))
theorem fk_P_20 (X : ez_X) (m : Nat) : fx_okP X (ft_P_20 X m) (ez_P0_20 m) := by
  delta ft_P_20 ez_P0_20
  exact fx_cndP (fk_P_18 X m) (fk_P_19 X m)
theorem fk_P_21 (X : ez_X) (m : Nat) : fx_okP X (ft_P_21 X m) (ez_P0_21 m) := by
  delta ft_P_21 ez_P0_21
  exact fx_cndP (fk_P_17 X m) (fk_P_20 X m)
theorem fk_P_22 (X : ez_X) (m : Nat) : fx_okP X (ft_P_22 X m) (ez_P0_22 m) := by
  delta ft_P_22 ez_P0_22
  exact fx_cndP (fx_cndP (fx_gok (fk_90 X)) (fx_cndP (fx_gok (fk_91 X)) (fx_gok (fk_92 X)))) (fx_cndP (fx_cndP (fx_gok (fk_93 X)) (fx_gok (fk_94 X))) (fx_cndP (fx_gok (fk_95 X)) (fx_gok (fk_96 X))))
theorem fk_P_23 (X : ez_X) (m : Nat) : fx_okP X (ft_P_23 X m) (ez_P0_23 m) := by
  delta ft_P_23 ez_P0_23
  exact fx_cndP (fx_cndP (fx_cndP (fx_gok (fk_97 X)) (fx_gok (fk_98 X))) (fx_cndP (fx_gok (fk_99 X)) (fx_gok (fk_100 X)))) (fx_cndP (fx_cndP (fx_gok (fk_101 X)) (fx_gok (fk_102 X))) (fx_cndP (fx_gok (fk_103 X)) (fx_gok (fk_104 X))))
theorem fk_P_24 (X : ez_X) (m : Nat) : fx_okP X (ft_P_24 X m) (ez_P0_24 m) := by
  delta ft_P_24 ez_P0_24
  exact fx_cndP (fk_P_22 X m) (fk_P_23 X m)
theorem fk_P_25 (X : ez_X) (m : Nat) : fx_okP X (ft_P_25 X m) (ez_P0_25 m) := by
  delta ft_P_25 ez_P0_25
  exact fx_cndP (fx_cndP (fx_cndP (fx_gok (fk_105 X)) (fx_gok (fk_106 X))) (fx_cndP (fx_gok (fk_107 X)) (fx_gok (fk_108 X)))) (fx_cndP (fx_cndP (fx_gok (fk_109 X)) (fx_gok (fk_110 X))) (fx_cndP (fx_gok (fk_111 X)) (fx_gok (fk_112 X))))
theorem fk_P_26 (X : ez_X) (m : Nat) : fx_okP X (ft_P_26 X m) (ez_P0_26 m) := by
  delta ft_P_26 ez_P0_26
  exact fx_cndP (fx_cndP (fx_cndP (fx_gok (fk_113 X)) (fx_gok (fk_114 X))) (fx_cndP (fx_gok (fk_115 X)) (fx_gok (fk_116 X)))) (fx_cndP (fx_cndP (fx_gok (fk_117 X)) (fx_gok (fk_118 X))) (fx_cndP (fx_gok (fk_119 X)) (fx_gok (fk_120 X))))
theorem fk_P_27 (X : ez_X) (m : Nat) : fx_okP X (ft_P_27 X m) (ez_P0_27 m) := by
  delta ft_P_27 ez_P0_27
  exact fx_cndP (fk_P_25 X m) (fk_P_26 X m)
theorem fk_P_28 (X : ez_X) (m : Nat) : fx_okP X (ft_P_28 X m) (ez_P0_28 m) := by
  delta ft_P_28 ez_P0_28
  exact fx_cndP (fk_P_24 X m) (fk_P_27 X m)
theorem fk_P_29 (X : ez_X) (m : Nat) : fx_okP X (ft_P_29 X m) (ez_P0_29 m) := by
  delta ft_P_29 ez_P0_29
  exact fx_cndP (fk_P_21 X m) (fk_P_28 X m)
theorem fk_P_30 (X : ez_X) (m : Nat) : fx_okP X (ft_P_30 X m) (ez_P0_30 m) := by
  delta ft_P_30 ez_P0_30
  exact fx_cndP (fk_P_14 X m) (fk_P_29 X m)
theorem fk_P_31 (X : ez_X) (m : Nat) : fx_okP X (ft_P_31 X m) (ez_P0_31 m) := by
  delta ft_P_31 ez_P0_31
  exact fx_cndP (fx_cndP (fx_gok (fk_121 X)) (fx_cndP (fx_gok (fk_122 X)) (fx_gok (fk_123 X)))) (fx_cndP (fx_cndP (fx_gok (fk_124 X)) (fx_gok (fk_125 X))) (fx_cndP (fx_gok (fk_126 X)) (fx_gok (fk_127 X))))
theorem fk_P_32 (X : ez_X) (m : Nat) : fx_okP X (ft_P_32 X m) (ez_P0_32 m) := by
  delta ft_P_32 ez_P0_32
  exact fx_cndP (fx_cndP (fx_cndP (fx_gok (fk_128 X)) (fx_gok (fk_129 X))) (fx_cndP (fx_gok (fk_130 X)) (fx_gok (fk_131 X)))) (fx_cndP (fx_cndP (fx_gok (fk_132 X)) (fx_gok (fk_133 X))) (fx_cndP (fx_gok (fk_134 X)) (fx_gok (fk_135 X))))
theorem fk_P_33 (X : ez_X) (m : Nat) : fx_okP X (ft_P_33 X m) (ez_P0_33 m) := by
  delta ft_P_33 ez_P0_33
  exact fx_cndP (fk_P_31 X m) (fk_P_32 X m)
theorem fk_P_34 (X : ez_X) (m : Nat) : fx_okP X (ft_P_34 X m) (ez_P0_34 m) := by
  delta ft_P_34 ez_P0_34
  exact fx_cndP (fx_cndP (fx_gok (fk_136 X)) (fx_cndP (fx_gok (fk_137 X)) (fx_gok (fk_138 X)))) (fx_cndP (fx_cndP (fx_gok (fk_139 X)) (fx_gok (fk_140 X))) (fx_cndP (fx_gok (fk_141 X)) (fx_gok (fk_142 X))))
theorem fk_P_35 (X : ez_X) (m : Nat) : fx_okP X (ft_P_35 X m) (ez_P0_35 m) := by
  delta ft_P_35 ez_P0_35
  exact fx_cndP (fx_cndP (fx_cndP (fx_gok (fk_143 X)) (fx_gok (fk_144 X))) (fx_cndP (fx_gok (fk_145 X)) (fx_gok (fk_146 X)))) (fx_cndP (fx_cndP (fx_gok (fk_147 X)) (fx_gok (fk_148 X))) (fx_cndP (fx_gok (fk_149 X)) (fx_gok (fk_150 X))))
theorem fk_P_36 (X : ez_X) (m : Nat) : fx_okP X (ft_P_36 X m) (ez_P0_36 m) := by
  delta ft_P_36 ez_P0_36
  exact fx_cndP (fk_P_34 X m) (fk_P_35 X m)
theorem fk_P_37 (X : ez_X) (m : Nat) : fx_okP X (ft_P_37 X m) (ez_P0_37 m) := by
  delta ft_P_37 ez_P0_37
  exact fx_cndP (fk_P_33 X m) (fk_P_36 X m)
theorem fk_P_38 (X : ez_X) (m : Nat) : fx_okP X (ft_P_38 X m) (ez_P0_38 m) := by
  delta ft_P_38 ez_P0_38
  exact fx_cndP (fx_cndP (fx_gok (fk_151 X)) (fx_cndP (fx_gok (fk_152 X)) (fx_gok (fk_153 X)))) (fx_cndP (fx_cndP (fx_gok (fk_154 X)) (fx_gok (fk_155 X))) (fx_cndP (fx_gok (fk_156 X)) (fx_gok (fk_157 X))))
theorem fk_P_39 (X : ez_X) (m : Nat) : fx_okP X (ft_P_39 X m) (ez_P0_39 m) := by
  delta ft_P_39 ez_P0_39
  exact fx_cndP (fx_cndP (fx_cndP (fx_gok (fk_158 X)) (fx_gok (fk_159 X))) (fx_cndP (fx_gok (fk_160 X)) (fx_gok (fk_161 X)))) (fx_cndP (fx_cndP (fx_gok (fk_162 X)) (fx_gok (fk_163 X))) (fx_cndP (fx_gok (fk_164 X)) (fx_gok (fk_165 X))))
theorem fk_P_40 (X : ez_X) (m : Nat) : fx_okP X (ft_P_40 X m) (ez_P0_40 m) := by
  delta ft_P_40 ez_P0_40
  exact fx_cndP (fk_P_38 X m) (fk_P_39 X m)
theorem fk_P_41 (X : ez_X) (m : Nat) : fx_okP X (ft_P_41 X m) (ez_P0_41 m) := by
  delta ft_P_41 ez_P0_41
  exact fx_cndP (fx_cndP (fx_gok (fk_166 X)) (fx_cndP (fx_gok (fk_167 X)) (fx_gok (fk_168 X)))) (fx_cndP (fx_cndP (fx_gok (fk_169 X)) (fx_gok (fk_170 X))) (fx_cndP (fx_gok (fk_171 X)) (fx_gok (fk_172 X))))
theorem fk_P_42 (X : ez_X) (m : Nat) : fx_okP X (ft_P_42 X m) (ez_P0_42 m) := by
  delta ft_P_42 ez_P0_42
  exact fx_cndP (fx_cndP (fx_cndP (fx_gok (fk_173 X)) (fx_gok (fk_174 X))) (fx_cndP (fx_gok (fk_175 X)) (fx_gok (fk_176 X)))) (fx_cndP (fx_cndP (fx_gok (fk_177 X)) (fx_gok (fk_178 X))) (fx_cndP (fx_gok (fk_179 X)) (fx_gok (fk_180 X))))
theorem fk_P_43 (X : ez_X) (m : Nat) : fx_okP X (ft_P_43 X m) (ez_P0_43 m) := by
  delta ft_P_43 ez_P0_43
  exact fx_cndP (fk_P_41 X m) (fk_P_42 X m)
theorem fk_P_44 (X : ez_X) (m : Nat) : fx_okP X (ft_P_44 X m) (ez_P0_44 m) := by
  delta ft_P_44 ez_P0_44
  exact fx_cndP (fk_P_40 X m) (fk_P_43 X m)
theorem fk_P_45 (X : ez_X) (m : Nat) : fx_okP X (ft_P_45 X m) (ez_P0_45 m) := by
  delta ft_P_45 ez_P0_45
  exact fx_cndP (fk_P_37 X m) (fk_P_44 X m)
theorem fk_P_46 (X : ez_X) (m : Nat) : fx_okP X (ft_P_46 X m) (ez_P0_46 m) := by
  delta ft_P_46 ez_P0_46
  exact fx_cndP (fx_cndP (fx_gok (fk_181 X)) (fx_cndP (fx_gok (fk_182 X)) (fx_gok (fk_183 X)))) (fx_cndP (fx_cndP (fx_gok (fk_184 X)) (fx_gok (fk_185 X))) (fx_cndP (fx_gok (fk_186 X)) (fx_gok (fk_187 X))))
theorem fk_P_47 (X : ez_X) (m : Nat) : fx_okP X (ft_P_47 X m) (ez_P0_47 m) := by
  delta ft_P_47 ez_P0_47
  exact fx_cndP (fx_cndP (fx_cndP (fx_gok (fk_188 X)) (fx_gok (fk_189 X))) (fx_cndP (fx_gok (fk_190 X)) (fx_gok (fk_191 X)))) (fx_cndP (fx_cndP (fx_gok (fk_192 X)) (fx_gok (fk_193 X))) (fx_cndP (fx_gok (fk_194 X)) (fx_gok (fk_195 X))))
theorem fk_P_48 (X : ez_X) (m : Nat) : fx_okP X (ft_P_48 X m) (ez_P0_48 m) := by
  delta ft_P_48 ez_P0_48
  exact fx_cndP (fk_P_46 X m) (fk_P_47 X m)
theorem fk_P_49 (X : ez_X) (m : Nat) : fx_okP X (ft_P_49 X m) (ez_P0_49 m) := by
  delta ft_P_49 ez_P0_49
  exact fx_cndP (fx_cndP (fx_gok (fk_196 X)) (fx_cndP (fx_gok (fk_197 X)) (fx_gok (fk_198 X)))) (fx_cndP (fx_cndP (fx_gok (fk_199 X)) (fx_gok (fk_200 X))) (fx_cndP (fx_gok (fk_201 X)) (fx_gok (fk_202 X))))
theorem fk_P_50 (X : ez_X) (m : Nat) : fx_okP X (ft_P_50 X m) (ez_P0_50 m) := by
  delta ft_P_50 ez_P0_50
  exact fx_cndP (fx_cndP (fx_cndP (fx_gok (fk_203 X)) (fx_gok (fk_204 X))) (fx_cndP (fx_gok (fk_205 X)) (fx_gok (fk_206 X)))) (fx_cndP (fx_cndP (fx_gok (fk_207 X)) (fx_gok (fk_208 X))) (fx_cndP (fx_gok (fk_209 X)) (fx_gok (fk_210 X))))
theorem fk_P_51 (X : ez_X) (m : Nat) : fx_okP X (ft_P_51 X m) (ez_P0_51 m) := by
  delta ft_P_51 ez_P0_51
  exact fx_cndP (fk_P_49 X m) (fk_P_50 X m)
theorem fk_P_52 (X : ez_X) (m : Nat) : fx_okP X (ft_P_52 X m) (ez_P0_52 m) := by
  delta ft_P_52 ez_P0_52
  exact fx_cndP (fk_P_48 X m) (fk_P_51 X m)
theorem fk_P_53 (X : ez_X) (m : Nat) : fx_okP X (ft_P_53 X m) (ez_P0_53 m) := by
  delta ft_P_53 ez_P0_53
  exact fx_cndP (fx_cndP (fx_gok (fk_211 X)) (fx_cndP (fx_gok (fk_212 X)) (fx_gok (fk_213 X)))) (fx_cndP (fx_cndP (fx_gok (fk_214 X)) (fx_gok (fk_215 X))) (fx_cndP (fx_gok (fk_216 X)) (fx_gok (fk_217 X))))
theorem fk_P_54 (X : ez_X) (m : Nat) : fx_okP X (ft_P_54 X m) (ez_P0_54 m) := by
  delta ft_P_54 ez_P0_54
  exact fx_cndP (fx_cndP (fx_cndP (fx_gok (fk_218 X)) (fx_gok (fk_219 X))) (fx_cndP (fx_gok (fk_220 X)) (fx_gok (fk_221 X)))) (fx_cndP (fx_cndP (fx_gok (fk_222 X)) (fx_gok (fk_223 X))) (fx_cndP (fx_gok (fk_224 X)) (fx_gok (fk_225 X))))
theorem fk_P_55 (X : ez_X) (m : Nat) : fx_okP X (ft_P_55 X m) (ez_P0_55 m) := by
  delta ft_P_55 ez_P0_55
  exact fx_cndP (fk_P_53 X m) (fk_P_54 X m)
theorem fk_P_56 (X : ez_X) (m : Nat) : fx_okP X (ft_P_56 X m) (ez_P0_56 m) := by
  delta ft_P_56 ez_P0_56
  exact fx_cndP (fx_cndP (fx_cndP (fx_gok (fk_226 X)) (fx_gok (fk_227 X))) (fx_cndP (fx_gok (fk_228 X)) (fx_gok (fk_229 X)))) (fx_cndP (fx_cndP (fx_gok (fk_230 X)) (fx_gok (fk_231 X))) (fx_cndP (fx_gok (fk_232 X)) (fx_gok (fk_233 X))))
theorem fk_P_57 (X : ez_X) (m : Nat) : fx_okP X (ft_P_57 X m) (ez_P0_57 m) := by
  delta ft_P_57 ez_P0_57
  exact fx_cndP (fx_cndP (fx_cndP (fx_gok (fk_234 X)) (fx_gok (fk_235 X))) (fx_cndP (fx_gok (fk_236 X)) (fx_gok (fk_237 X)))) (fx_cndP (fx_cndP (fx_gok (fk_238 X)) (fx_gok (fk_239 X))) (fx_cndP (fx_gok (fk_240 X)) (fx_gok (fk_241 X))))
theorem fk_P_58 (X : ez_X) (m : Nat) : fx_okP X (ft_P_58 X m) (ez_P0_58 m) := by
  delta ft_P_58 ez_P0_58
  exact fx_cndP (fk_P_56 X m) (fk_P_57 X m)
theorem fk_P_59 (X : ez_X) (m : Nat) : fx_okP X (ft_P_59 X m) (ez_P0_59 m) := by
  delta ft_P_59 ez_P0_59
  exact fx_cndP (fk_P_55 X m) (fk_P_58 X m)
theorem fk_P_60 (X : ez_X) (m : Nat) : fx_okP X (ft_P_60 X m) (ez_P0_60 m) := by
  delta ft_P_60 ez_P0_60
  exact fx_cndP (fk_P_52 X m) (fk_P_59 X m)
theorem fk_P_61 (X : ez_X) (m : Nat) : fx_okP X (ft_P_61 X m) (ez_P0_61 m) := by
  delta ft_P_61 ez_P0_61
  exact fx_cndP (fk_P_45 X m) (fk_P_60 X m)
theorem fk_P (X : ez_X) (m : Nat) : fx_okP X (ft_P X m) (ez_P0 m) := by
  delta ft_P ez_P0
  exact fx_cndP (fk_P_30 X m) (fk_P_61 X m)
/-- one machine is the other -/
theorem fx_is (X : ez_X) (F : Nat) : fx_ev X F = ez_ev ez_P0 X ez_ty0 ez_nw0 (ez_mL ez_M0) F := by
  induction F with
  | zero => rfl
  | succ F ih =>
    funext m pc ls st h c k
    show ft_P X m pc (fx_ev X F) m pc ls st h c k = _
    rw [ez_ev_s, ← ih, fk_P X m pc]
    rfl
end
