/-! Between what fields and cells of arrays lie at all times. -/
def cx_B0 : Nat → Nat → cx_Iv := fun a k => bif Nat.blt a 22 then (bif Nat.blt a 6 then (bif Nat.blt a 3 then (bif Nat.blt a 2 then (bif Nat.beq a 1 then (bif Nat.beq k 1 then (-1, 1) else bif Nat.beq k 2 then (-1, 1) else bif Nat.beq k 3 then (2, 6) else bif Nat.beq k 4 then (2, 6) else bif Nat.beq k 5 then (0, 1) else bif Nat.beq k 6 then (4, 36) else cx_i32) else cx_i32) else (bif Nat.beq a 2 then (0, 2) else cx_i32)) else (bif Nat.blt a 5 then (bif Nat.beq a 3 then (bif Nat.beq k 3 then (0, 3) else cx_i32) else cx_i32) else (bif Nat.beq a 5 then (0, 288) else cx_i32))) else (bif Nat.blt a 13 then (bif Nat.blt a 8 then (bif Nat.beq a 6 then (bif Nat.beq k 3 then (0, 10000) else bif Nat.beq k 4 then (0, 1) else cx_i32) else cx_i32) else (bif Nat.beq a 8 then (bif Nat.beq k 1 then (0, 30) else cx_i32) else cx_i32)) else (bif Nat.blt a 20 then (bif Nat.beq a 13 then (bif Nat.beq k 8 then (0, 1) else bif Nat.beq k 9 then (0, 1) else cx_i32) else cx_i32) else (bif Nat.beq a 20 then (bif Nat.beq k 3 then (0, 1) else cx_i32) else cx_i32)))) else (bif Nat.blt a 54 then (bif Nat.blt a 38 then (bif Nat.blt a 35 then (bif Nat.beq a 22 then (bif Nat.beq k 8 then (0, 1) else cx_i32) else cx_i32) else (bif Nat.beq a 35 then (bif Nat.beq k 0 then (2, 6) else bif Nat.beq k 1 then (2, 6) else bif Nat.beq k 2 then (0, 1) else bif Nat.beq k 3 then (0, 3) else bif Nat.beq k 6 then (0, 2) else bif Nat.beq k 7 then (0, 1) else bif Nat.beq k 8 then (0, 2) else bif Nat.beq k 9 then (-1, 1) else bif Nat.beq k 10 then (-1, 1) else bif Nat.beq k 14 then (0, 10000) else bif Nat.beq k 16 then (0, 30) else bif Nat.beq k 24 then (0, 10000) else cx_i32) else cx_i32)) else (bif Nat.blt a 41 then (bif Nat.beq a 38 then (0, 300) else cx_i32) else (bif Nat.beq a 41 then (0, 299) else cx_i32))) else (bif Nat.blt a 58 then (bif Nat.blt a 55 then (bif Nat.beq a 54 then (0, 400) else cx_i32) else (bif Nat.beq a 55 then (0, 400) else cx_i32)) else (bif Nat.blt a 59 then (bif Nat.beq a 58 then (0, 400) else cx_i32) else (bif Nat.beq a 59 then (0, 400) else cx_i32))))
def cx_hA1 (p : Nat) : Prop := ∀ (n : Nat) (t : List (Nat × Nat)), cx_Ds[p]? = some (0, n, t) → ∀ k, cx_B0 p k = cx_B0 p 0
theorem cx_hA_0 : cx_hA1 0 := fun _ _ h => by cases h
theorem cx_hA_1 : cx_hA1 1 := fun _ _ h => by cases h
theorem cx_hA_2 : cx_hA1 2 := fun _ _ _ _ => rfl
theorem cx_hA_3 : cx_hA1 3 := fun _ _ h => by cases h
theorem cx_hA_4 : cx_hA1 4 := fun _ _ h => by cases h
theorem cx_hA_5 : cx_hA1 5 := fun _ _ _ _ => rfl
theorem cx_hA_6 : cx_hA1 6 := fun _ _ h => by cases h
theorem cx_hA_7 : cx_hA1 7 := fun _ _ _ _ => rfl
theorem cx_hA_8 : cx_hA1 8 := fun _ _ h => by cases h
theorem cx_hA_9 : cx_hA1 9 := fun _ _ h => by cases h
theorem cx_hA_10 : cx_hA1 10 := fun _ _ h => by cases h
theorem cx_hA_11 : cx_hA1 11 := fun _ _ h => by cases h
theorem cx_hA_12 : cx_hA1 12 := fun _ _ h => by cases h
theorem cx_hA_13 : cx_hA1 13 := fun _ _ h => by cases h
theorem cx_hA_14 : cx_hA1 14 := fun _ _ h => by cases h
theorem cx_hA_15 : cx_hA1 15 := fun _ _ _ _ => rfl
theorem cx_hA_16 : cx_hA1 16 := fun _ _ _ _ => rfl
theorem cx_hA_17 : cx_hA1 17 := fun _ _ h => by cases h
theorem cx_hA_18 : cx_hA1 18 := fun _ _ h => by cases h
theorem cx_hA_19 : cx_hA1 19 := fun _ _ h => by cases h
theorem cx_hA_20 : cx_hA1 20 := fun _ _ h => by cases h
theorem cx_hA_21 : cx_hA1 21 := fun _ _ _ _ => rfl
theorem cx_hA_22 : cx_hA1 22 := fun _ _ h => by cases h
theorem cx_hA_23 : cx_hA1 23 := fun _ _ h => by cases h
theorem cx_hA_24 : cx_hA1 24 := fun _ _ _ _ => rfl
theorem cx_hA_25 : cx_hA1 25 := fun _ _ _ _ => rfl
theorem cx_hA_26 : cx_hA1 26 := fun _ _ _ _ => rfl
theorem cx_hA_27 : cx_hA1 27 := fun _ _ _ _ => rfl
theorem cx_hA_28 : cx_hA1 28 := fun _ _ _ _ => rfl
theorem cx_hA_29 : cx_hA1 29 := fun _ _ h => by cases h
theorem cx_hA_30 : cx_hA1 30 := fun _ _ _ _ => rfl
theorem cx_hA_31 : cx_hA1 31 := fun _ _ h => by cases h
theorem cx_hA_32 : cx_hA1 32 := fun _ _ h => by cases h
theorem cx_hA_33 : cx_hA1 33 := fun _ _ _ _ => rfl
theorem cx_hA_34 : cx_hA1 34 := fun _ _ h => by cases h
theorem cx_hA_35 : cx_hA1 35 := fun _ _ h => by cases h
theorem cx_hA_36 : cx_hA1 36 := fun _ _ _ _ => rfl
theorem cx_hA_37 : cx_hA1 37 := fun _ _ _ _ => rfl
theorem cx_hA_38 : cx_hA1 38 := fun _ _ _ _ => rfl
theorem cx_hA_39 : cx_hA1 39 := fun _ _ h => by cases h
theorem cx_hA_40 : cx_hA1 40 := fun _ _ h => by cases h
theorem cx_hA_41 : cx_hA1 41 := fun _ _ _ _ => rfl
theorem cx_hA_42 : cx_hA1 42 := fun _ _ _ _ => rfl
theorem cx_hA_43 : cx_hA1 43 := fun _ _ _ _ => rfl
theorem cx_hA_44 : cx_hA1 44 := fun _ _ _ _ => rfl
theorem cx_hA_45 : cx_hA1 45 := fun _ _ h => by cases h
theorem cx_hA_46 : cx_hA1 46 := fun _ _ h => by cases h
theorem cx_hA_47 : cx_hA1 47 := fun _ _ h => by cases h
theorem cx_hA_48 : cx_hA1 48 := fun _ _ _ _ => rfl
theorem cx_hA_49 : cx_hA1 49 := fun _ _ _ _ => rfl
theorem cx_hA_50 : cx_hA1 50 := fun _ _ h => by cases h
theorem cx_hA_51 : cx_hA1 51 := fun _ _ h => by cases h
theorem cx_hA_52 : cx_hA1 52 := fun _ _ h => by cases h
theorem cx_hA_53 : cx_hA1 53 := fun _ _ _ _ => rfl
theorem cx_hA_54 : cx_hA1 54 := fun _ _ _ _ => rfl
theorem cx_hA_55 : cx_hA1 55 := fun _ _ _ _ => rfl
theorem cx_hA_56 : cx_hA1 56 := fun _ _ h => by cases h
theorem cx_hA_57 : cx_hA1 57 := fun _ _ _ _ => rfl
theorem cx_hA_58 : cx_hA1 58 := fun _ _ _ _ => rfl
theorem cx_hA_59 : cx_hA1 59 := fun _ _ _ _ => rfl
theorem cx_hA_60 : cx_hA1 60 := fun _ _ _ _ => rfl
theorem cx_hA_61 : cx_hA1 61 := fun _ _ _ _ => rfl
theorem cx_hA_62 : cx_hA1 62 := fun _ _ _ _ => rfl
theorem cx_hA_63 : cx_hA1 63 := fun _ _ _ _ => rfl
theorem cx_hA_64 : cx_hA1 64 := fun _ _ _ _ => rfl
theorem cx_hAb_8 : ∀ p, p < 8 → cx_hA1 p := (lt_s (lt_s (lt_s (lt_s (lt_s (lt_s (lt_s (lt_s lt_0 cx_hA_0) cx_hA_1) cx_hA_2) cx_hA_3) cx_hA_4) cx_hA_5) cx_hA_6) cx_hA_7)
theorem cx_hAb_16 : ∀ p, p < 16 → cx_hA1 p := (lt_s (lt_s (lt_s (lt_s (lt_s (lt_s (lt_s (lt_s cx_hAb_8 cx_hA_8) cx_hA_9) cx_hA_10) cx_hA_11) cx_hA_12) cx_hA_13) cx_hA_14) cx_hA_15)
theorem cx_hAb_24 : ∀ p, p < 24 → cx_hA1 p := (lt_s (lt_s (lt_s (lt_s (lt_s (lt_s (lt_s (lt_s cx_hAb_16 cx_hA_16) cx_hA_17) cx_hA_18) cx_hA_19) cx_hA_20) cx_hA_21) cx_hA_22) cx_hA_23)
theorem cx_hAb_32 : ∀ p, p < 32 → cx_hA1 p := (lt_s (lt_s (lt_s (lt_s (lt_s (lt_s (lt_s (lt_s cx_hAb_24 cx_hA_24) cx_hA_25) cx_hA_26) cx_hA_27) cx_hA_28) cx_hA_29) cx_hA_30) cx_hA_31)
theorem cx_hAb_40 : ∀ p, p < 40 → cx_hA1 p := (lt_s (lt_s (lt_s (lt_s (lt_s (lt_s (lt_s (lt_s cx_hAb_32 cx_hA_32) cx_hA_33) cx_hA_34) cx_hA_35) cx_hA_36) cx_hA_37) cx_hA_38) cx_hA_39)
theorem cx_hAb_48 : ∀ p, p < 48 → cx_hA1 p := (lt_s (lt_s (lt_s (lt_s (lt_s (lt_s (lt_s (lt_s cx_hAb_40 cx_hA_40) cx_hA_41) cx_hA_42) cx_hA_43) cx_hA_44) cx_hA_45) cx_hA_46) cx_hA_47)
theorem cx_hAb_56 : ∀ p, p < 56 → cx_hA1 p := (lt_s (lt_s (lt_s (lt_s (lt_s (lt_s (lt_s (lt_s cx_hAb_48 cx_hA_48) cx_hA_49) cx_hA_50) cx_hA_51) cx_hA_52) cx_hA_53) cx_hA_54) cx_hA_55)
theorem cx_hAb_64 : ∀ p, p < 64 → cx_hA1 p := (lt_s (lt_s (lt_s (lt_s (lt_s (lt_s (lt_s (lt_s cx_hAb_56 cx_hA_56) cx_hA_57) cx_hA_58) cx_hA_59) cx_hA_60) cx_hA_61) cx_hA_62) cx_hA_63)
theorem cx_hAb_65 : ∀ p, p < 65 → cx_hA1 p := (lt_s cx_hAb_64 cx_hA_64)
theorem cx_hA0 : cx_hA cx_B0 := fun p n t h k => cx_hAb_65 p (by
  have h1 := (List.getElem?_eq_some_iff.mp h).1
  exact Nat.lt_of_lt_of_le h1 (by decide)) n t h k
theorem cx_Gn {B : Nat → Nat → cx_Iv} : ∀ g ∈ ([] : List (Nat × cx_K)), cx_valid B g.1 g.2 := fun g hg => by cases hg
theorem cx_Gc {B : Nat → Nat → cx_Iv} {m : Nat} {K : cx_K} {G : List (Nat × cx_K)} (h : cx_valid B m K) (t : ∀ g ∈ G, cx_valid B g.1 g.2) : ∀ g ∈ (m, K) :: G, cx_valid B g.1 g.2 := fun g hg => by
  rcases List.mem_cons.mp hg with e | e
  · rw [e]; exact h
  · exact t g e
