/-! The caller puts the layings in order. -/
def cq_po : cx_K := (([(2, 22), (0, 0)], [], [cx_i32], [], [], []), [], [([], [], [cx_i32], [], [], [])])
set_option maxRecDepth 1000000 in
theorem cq_po_v : cx_validp cx_B0 66 32 cq_po := cx_chkp_s (G := [(38, ck_puI)]) (An := [(34, ([(2, 22), (0, 0), (0, 1)], [], [cx_i32, (0, 2147483647)], [], [], []), [(0, 99966), (1, 1)])]) (n := 14) cx_hA0 (cx_Gc cv_puI cx_Gn) (by decide +kernel)
section
variable (X : ez_X) (I : Nat → Nat → Int32) (J : Nat → Nat → Int64) (R : Nat → Nat) (T : List ez_C)
theorem eh_po_r1 (cz kz : Nat) : ∀ G : ez_F, fx_up X 7 G 66 0 [.ref 22] [] (ev_hp I J R T) cz kz = G 66 13 [.ref 22, .int (I 6 3)] [.ref (R 4), .int (I 6 3)] (ev_hp I J R T) cz kz := by
  intro G
  rfl
theorem eh_po_r2 (w n : Int32) (cz kz : Nat) : ∀ G : ez_F, fx_up X 1 G 66 14 [.ref 22, .int w] [.int n, .int w] (ev_hp I J R T) cz kz = bif decide (w ≤ n) then G 66 32 [.ref 22, .int w] [] (ev_hp I J R T) cz kz else G 66 17 [.ref 22, .int w] [] (ev_hp I J R T) cz kz := by
  intro G
  rfl
theorem eh_po_r3 (w : Int32) (cz kz : Nat) : ∀ G : ez_F, fx_up X 3 G 66 17 [.ref 22, .int w] [] (ev_hp I J R T) cz kz = G 66 22 [.ref 22, .int w] [.ref (R 4), .ref 22] (ev_hp I J R T) cz kz := by
  intro G
  rfl
theorem eh_po_r4 (w n : Int32) (cz kz : Nat) : ∀ G : ez_F, fx_up X 2 G 66 23 [.ref 22, .int w] [.int n, .ref 22] (ev_hp I J R T) cz kz = ev_C G 19 [.int n, .int w] (ev_hp I J R T) fun r h1 c1 k1 => G 66 27 [.ref 22, .int w] (r.toList ++ [.ref 22]) h1 (cz + c1) (kz + k1) := by
  intro G
  rfl
theorem eh_po_r5 (w : Int32) (v : Nat) (cz kz : Nat) : ∀ G : ez_F, fx_up X 1 G 66 29 [.ref 22, .int w] [.ref v, .ref 22] (ev_hp I J R T) cz kz = G 66 32 [.ref 22, .int w] [] (ev_hp I J (ev_sR R 4 v) T) cz kz := by
  intro G
  rfl
end
theorem cv_Caller_putInOrder : cx_valid cx_B0 66 ck_Caller_putInOrder := by
  intro X σ0 ls I J R T hX2 hh hok
  obtain ⟨v1, t1, rfl, rfl, g2⟩ := cx_L_inv hok.1
  obtain rfl := cx_L_nil g2 rfl
  obtain ⟨-, n0, n1, n4, a0, a1, a2, a3, a4, b0, b1, b4, hm⟩ := id hh.2
  obtain ⟨f, hf⟩ := cx_row_I (I := I) (J := J) (R := R) a4
  have en : (Int32.ofNat n4).toInt = n4 := Int32.toInt_ofNat_of_lt (by omega)
  have hw := hh.1 6 3
  obtain ⟨q1, q2, q3, q4⟩ := ev_grown_s (w := I 6 3) b4
  refine ev_seg (eh_po_r1 X I J R T _ _) ?_
  have hw1 : (cx_B0 6 3) = (0, 10000) := rfl
  rw [hw1] at hw
  simp only at hw
  generalize I 6 3 = w at hw q1 q2 q3 q4
  -- from the loop on
  have tail : ∀ (R' : Nat → Nat) (T' : List ez_C) (c k : Nat), cx_hok cx_B0 I R' T' → cx_leT T T' → c + T.length = T'.length → k + cx_mem T = cx_mem T' → ev_W X 66 32 [.ref 22, .int w] [] (ev_hp I J R' T') c k (cx_post cx_B0 ck_Caller_putInOrder σ0 I J T 0 0) := by
    intro R' T' c k h1 h2 h3 h4
    refine (cq_po_v X [w.toInt] [.ref 22, .int w] [] I J R' T' c k hX2 h1 ⟨⟨rfl, ⟨w, rfl, rfl⟩, trivial⟩, trivial, ⟨rfl, fun s v p e1 e2 => ?_⟩, cx_nil, fun e he => (by cases he), fun e he => (by cases he)⟩).mono ?_
    · cases s with
      | zero =>
        simp at e1
        have e2 : some cx_i32 = some p := e2
        injection e2 with e2
        rw [← e1, ← e2]
        exact cx_full32 w
      | succ s => simp at e1
    · rintro r h' c' k' ⟨I', J', R2, T2, rfl, p1, p2, p3, p4, p5, E, hE, τ, p6, p7⟩
      have hE : E ∈ [([], [], [cx_i32], [], [], [])] := hE
      rw [List.mem_singleton.mp hE] at p7
      have hr : r = none := by
        cases r with
        | none => rfl
        | some v => have := p7.2.1; simp [cx_L] at this
      subst hr
      refine ⟨I', J', R2, T2, rfl, p1, fun a q _ => p2 a q rfl, cx_leT_t h2 p3, by omega, by omega, _, List.mem_cons_self, σ0, cx_ext_r σ0, cx_ok_none hok.2.2.1 I' _⟩
  refine ev_alenI (by rfl) hf ?_
  refine ev_if (eh_po_r2 X I J R T w _ _ _) (fun ht => tail R T _ _ hh (cx_leT_r T) (by omega) (by omega)) (fun ht => ?_)
  have hlt : (n4 : Int) < w.toInt := by
    have z := of_decide_eq_false ht
    have : ¬ w.toInt ≤ (Int32.ofNat n4).toInt := fun y => z (Int32.le_iff_toInt_le.mpr y)
    omega
  refine ev_seg (eh_po_r3 X I J R T w _ _) ?_
  refine ev_alenI (by rfl) hf ?_
  refine ev_call (eh_po_r4 X I J R T w _ _ _) (eh_grown X _ _ _) ?_
  rintro _ _ _ _ ⟨rfl, rfl, rfl, rfl⟩
  generalize ev_grown (Int32.ofNat n4) w = g at q1 q2 q3 q4
  have q4 := q4 (by omega)
  refine ev_newI (by rfl) q1 q2 ?_
  refine ev_seg (eh_po_r5 X I J R _ w _ _ _) ?_
  have hx : cx_isrow 0 g.toInt.toNat (.inl (g.toInt.toNat, .inl fun _ => 0)) := Or.inl ⟨rfl, _, rfl⟩
  have hr := cx_rows_4 hh.2 a4 hx (by omega) (by omega) (by omega)
  exact tail _ _ _ _ ⟨hh.1, hr⟩ (cx_leT_app T _) (by simp only [List.length_append, List.length_cons, List.length_nil]; omega) (by rw [cx_mem_app hx]; omega)
