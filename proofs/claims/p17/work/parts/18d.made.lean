/-! Rows made longer in the class: the caller's order, the ledger's rows. -/
def ev_grown (had wanted : Int32) : Int32 := if 0 < (if (if wanted < 2 * had then 2 * had else wanted) < 10000 then (if wanted < 2 * had then 2 * had else wanted) else 10000) then (if (if wanted < 2 * had then 2 * had else wanted) < 10000 then (if wanted < 2 * had then 2 * had else wanted) else 10000) else 0
theorem eh_grown_r (X : ez_X) (h : ez_H) (had wanted : Int32) (cz kz : Nat) : ∀ G : ez_F, fx_up X 10 G 19 0 [.int had, .int wanted] [] h cz kz = some (some (.int (ev_grown had wanted)), h, cz, kz) := by
  intro G
  rfl
theorem eh_grown (X : ez_X) (h : ez_H) (had wanted : Int32) : ev_W X 19 0 (ez_lay [.int had, .int wanted]) [] h 0 0 (ev_is (some (.int (ev_grown had wanted))) h) :=
  ev_ret (eh_grown_r X h had wanted 0 0) ⟨rfl, rfl, rfl, rfl⟩
theorem ev_grown_s {n : Nat} {w : Int32} (hn : n ≤ 10000) : 0 ≤ (ev_grown (Int32.ofNat n) w).toInt ∧ (ev_grown (Int32.ofNat n) w).toInt ≤ 10000 ∧ (2 * (n : Int) ≤ (ev_grown (Int32.ofNat n) w).toInt ∨ (ev_grown (Int32.ofNat n) w).toInt = 10000) ∧ (w.toInt ≤ 10000 → w.toInt ≤ (ev_grown (Int32.ofNat n) w).toInt) := by
  have e0 : (0 : Int32).toInt = 0 := by decide
  have e1 : (10000 : Int32).toInt = 10000 := by decide
  have en : (Int32.ofNat n).toInt = n := Int32.toInt_ofNat_of_lt (by omega)
  have e2 : (2 * Int32.ofNat n).toInt = 2 * (n : Int) := by
    rw [Int32.toInt_mul, en, show (2 : Int32).toInt = 2 from by decide, cx_bm32]
    simp only [cx_i32]
    omega
  generalize hq : 2 * Int32.ofNat n = q at e2
  unfold ev_grown
  rw [hq]
  have l1 : ∀ x y : Int32, x < y ↔ x.toInt < y.toInt := fun x y => Int32.lt_iff_toInt_lt
  obtain ⟨m, hm, hm1, hm2⟩ : ∃ m : Int32, (if w < q then q else w) = m ∧ q.toInt ≤ m.toInt ∧ w.toInt ≤ m.toInt ∧ (m = q ∨ m = w) := by
    by_cases h : w < q
    · exact ⟨q, if_pos h, Int.le_refl _, Int.le_of_lt ((l1 _ _).mp h), Or.inl rfl⟩
    · exact ⟨w, if_neg h, Int.not_lt.mp fun z => h ((l1 _ _).mpr z), Int.le_refl _, Or.inr rfl⟩
  rw [hm]
  obtain ⟨p, hp, hp1⟩ : ∃ p : Int32, (if m < 10000 then m else 10000) = p ∧ ((p.toInt = m.toInt ∧ m.toInt < 10000) ∨ (p.toInt = 10000 ∧ 10000 ≤ m.toInt)) := by
    by_cases h : m < 10000
    · exact ⟨m, if_pos h, Or.inl ⟨rfl, by have := (l1 _ _).mp h; omega⟩⟩
    · exact ⟨10000, if_neg h, Or.inr ⟨e1, by have : ¬ m.toInt < (10000 : Int32).toInt := fun z => h ((l1 _ _).mpr z); omega⟩⟩
  rw [hp]
  by_cases h : 0 < p
  · rw [if_pos h]
    have := (l1 _ _).mp h
    omega
  · rw [if_neg h]
    have : ¬ (0 : Int32).toInt < p.toInt := fun z => h ((l1 _ _).mpr z)
    omega
section
variable (X : ez_X) (I : Nat → Nat → Int32) (J : Nat → Nat → Int64) (R : Nat → Nat) (T : List ez_C)
theorem eh_gw_r1 (w : Int32) (cz kz : Nat) : ∀ G : ez_F, fx_up X 2 G 108 0 [.ref 13, .int w] [] (ev_hp I J R T) cz kz = G 108 4 [.ref 13, .int w] [.ref (R 1)] (ev_hp I J R T) cz kz := by
  intro G
  rfl
theorem eh_gw_r2 (w n : Int32) (cz kz : Nat) : ∀ G : ez_F, fx_up X 2 G 108 5 [.ref 13, .int w] [.int n] (ev_hp I J R T) cz kz = ev_C G 19 [.int n, .int w] (ev_hp I J R T) fun r h1 c1 k1 => G 108 9 [.ref 13, .int w] (r.toList ++ []) h1 (cz + c1) (kz + k1) := by
  intro G
  rfl
theorem eh_gw_r3 (w g : Int32) (cz kz : Nat) : ∀ G : ez_F, fx_up X 4 G 108 9 [.ref 13, .int w] [.int g] (ev_hp I J R T) cz kz = G 108 15 [.ref 13, .int w, .int g] [.ref (R 1), .int w] (ev_hp I J R T) cz kz := by
  intro G
  rfl
theorem eh_gw_r4 (w g n : Int32) (cz kz : Nat) : ∀ G : ez_F, fx_up X 1 G 108 16 [.ref 13, .int w, .int g] [.int n, .int w] (ev_hp I J R T) cz kz = bif decide (w ≤ n) then G 108 49 [.ref 13, .int w, .int g] [] (ev_hp I J R T) cz kz else G 108 19 [.ref 13, .int w, .int g] [] (ev_hp I J R T) cz kz := by
  intro G
  rfl
theorem eh_gw_r5 (w g : Int32) (cz kz : Nat) : ∀ G : ez_F, fx_up X 3 G 108 19 [.ref 13, .int w, .int g] [] (ev_hp I J R T) cz kz = G 108 24 [.ref 13, .int w, .int g] [.ref (R 1), .int g] (ev_hp I J R T) cz kz := by
  intro G
  rfl
theorem eh_gw_r6 (w g n : Int32) (cz kz : Nat) : ∀ G : ez_F, fx_up X 1 G 108 25 [.ref 13, .int w, .int g] [.int n, .int g] (ev_hp I J R T) cz kz = bif decide (g ≤ n) then G 108 49 [.ref 13, .int w, .int g] [] (ev_hp I J R T) cz kz else G 108 28 [.ref 13, .int w, .int g] [] (ev_hp I J R T) cz kz := by
  intro G
  rfl
theorem eh_gw_r7 (w g : Int32) (cz kz : Nat) : ∀ G : ez_F, fx_up X 2 G 108 28 [.ref 13, .int w, .int g] [] (ev_hp I J R T) cz kz = G 108 30 [.ref 13, .int w, .int g] [.int g, .ref 13] (ev_hp I J R T) cz kz := by
  intro G
  rfl
theorem eh_gw_r8 (w g : Int32) (v : Nat) (cz kz : Nat) : ∀ G : ez_F, fx_up X 3 G 108 32 [.ref 13, .int w, .int g] [.ref v, .ref 13] (ev_hp I J R T) cz kz = G 108 37 [.ref 13, .int w, .int g] [.int g, .ref 13] (ev_hp I J (ev_sR R 1 v) T) cz kz := by
  intro G
  rfl
theorem eh_gw_r9 (w g : Int32) (v : Nat) (cz kz : Nat) : ∀ G : ez_F, fx_up X 3 G 108 39 [.ref 13, .int w, .int g] [.ref v, .ref 13] (ev_hp I J R T) cz kz = G 108 44 [.ref 13, .int w, .int g] [.int g, .ref 13] (ev_hp I J (ev_sR R 2 v) T) cz kz := by
  intro G
  rfl
theorem eh_gw_rA (w g : Int32) (v : Nat) (cz kz : Nat) : ∀ G : ez_F, fx_up X 1 G 108 46 [.ref 13, .int w, .int g] [.ref v, .ref 13] (ev_hp I J R T) cz kz = G 108 49 [.ref 13, .int w, .int g] [] (ev_hp I J (ev_sR R 3 v) T) cz kz := by
  intro G
  rfl
theorem eh_gw_rB (w g : Int32) (cz kz : Nat) : ∀ G : ez_F, fx_up X 1 G 108 49 [.ref 13, .int w, .int g] [] (ev_hp I J R T) cz kz = some (none, ev_hp I J R T, cz, kz) := by
  intro G
  rfl
end
theorem cv_Ledger_grow : cx_valid cx_B0 108 ck_Ledger_grow := by
  intro X σ0 ls I J R T _ hh hok
  obtain ⟨v1, t1, rfl, rfl, g2⟩ := cx_L_inv hok.1
  obtain ⟨v2, t2, rfl, ⟨w, rfl, hw⟩, g4⟩ := cx_L_inv g2
  obtain rfl := cx_L_nil g4 rfl
  have hwb := hok.2.2.1.2 0 w.toInt (0, 10000) hw rfl
  simp only at hwb
  obtain ⟨-, n0, n1, n4, a0, a1, a2, a3, a4, b0, b1, b4, hm⟩ := id hh.2
  obtain ⟨f, hf⟩ := cx_row_J (I := I) (J := J) (R := R) a1
  have en : (Int32.ofNat n1).toInt = n1 := Int32.toInt_ofNat_of_lt (by omega)
  have fin : cx_post cx_B0 ck_Ledger_grow σ0 I J T 0 0 none (ev_hp I J R T) 0 0 := cx_same hh (cx_leT_r T) rfl rfl List.mem_cons_self (cx_ext_r σ0) (cx_ok_none hok.2.2.1 I T)
  obtain ⟨q1, q2, q3, q4⟩ := ev_grown_s (w := w) b1
  refine ev_seg (eh_gw_r1 X I J R T w _ _) ?_
  refine ev_alenJ (by rfl) hf ?_
  refine ev_call (eh_gw_r2 X I J R T w _ _ _) (eh_grown X _ _ _) ?_
  rintro _ _ _ _ ⟨rfl, rfl, rfl, rfl⟩
  generalize ev_grown (Int32.ofNat n1) w = g at q1 q2 q3 q4
  refine ev_seg (eh_gw_r3 X I J R T w g _ _) ?_
  refine ev_alenJ (by rfl) hf ?_
  refine ev_if (eh_gw_r4 X I J R T w g _ _ _) (fun ht => ev_ret (eh_gw_rB X I J R T w g _ _) fin) (fun ht => ?_)
  refine ev_seg (eh_gw_r5 X I J R T w g _ _) ?_
  refine ev_alenJ (by rfl) hf ?_
  refine ev_if (eh_gw_r6 X I J R T w g _ _ _) (fun ht => ev_ret (eh_gw_rB X I J R T w g _ _) fin) (fun ht2 => ?_)
  have hlt : (n1 : Int) < g.toInt := by
    have z := of_decide_eq_false ht2
    have : ¬ g.toInt ≤ (Int32.ofNat n1).toInt := fun y => z (Int32.le_iff_toInt_le.mpr y)
    omega
  refine ev_seg (eh_gw_r7 X I J R T w g _ _) ?_
  refine ev_newJ (by rfl) q1 q2 ?_
  refine ev_seg (eh_gw_r8 X I J R _ w g _ _ _) ?_
  refine ev_newJ (by rfl) q1 q2 ?_
  refine ev_seg (eh_gw_r9 X I J _ _ w g _ _ _) ?_
  refine ev_newJ (by rfl) q1 q2 ?_
  refine ev_seg (eh_gw_rA X I J _ _ w g _ _ _) ?_
  refine ev_ret (eh_gw_rB X I J _ _ w g _ _) ?_
  have hx : cx_isrow 1 g.toInt.toNat (.inl (g.toInt.toNat, .inr (.inl fun _ => 0))) := Or.inr ⟨rfl, _, rfl⟩
  have hr := cx_rows_123 hh.2 a1 hx (by omega) (by omega) (by omega)
  have t1 := cx_leT_app T (.inl (g.toInt.toNat, .inr (.inl fun _ => 0)))
  have t2 := cx_leT_t t1 (cx_leT_app _ (.inl (g.toInt.toNat, .inr (.inl fun _ => 0))))
  have t3 := cx_leT_t t2 (cx_leT_app _ (.inl (g.toInt.toNat, .inr (.inl fun _ => 0))))
  exact ⟨I, J, _, _, rfl, ⟨hh.1, hr⟩, cx_fr_r _ _ _, t3, by simp only [List.length_append, List.length_cons, List.length_nil]; omega, by rw [cx_mem_app hx, cx_mem_app hx, cx_mem_app hx]; omega, _, List.mem_cons_self, σ0, cx_ext_r σ0, cx_ok_none hok.2.2.1 I _⟩
