/-! The law: each case, the loop. -/
theorem cx_segS {B : Nat → Nat → cx_Iv} {G : List (Nat × cx_K)} {K : cx_K} {m n pc : Nat} {An : List (Nat × cx_A)} {first : Bool} (hA : cx_hA B) (hG : ∀ g ∈ G, cx_valid B g.1 g.2) (hv : cx_run true B G K m (cx_fAn An) none n first pc K.1 = true)
    {X : ez_X} {σ0 : List Int} {ls st : List Value} {I : Nat → Nat → Int32} {J : Nat → Nat → Int64} {R : Nat → Nat} {T : List ez_C} {c k : Nat} {Q : ev_Q} (hX2 : X.1 < 2 ^ 31) (hX : σ0[0]? = some (X.1 : Int)) (hh : cx_hok B I R T) (hok : cx_ok σ0 K.1 ls st I T)
    (hQ : ∀ r h' c' k', cx_post B K σ0 I J T c k r h' c' k' → Q r h' c' k')
    (hAn : ∀ (pc' : Nat) (A : cx_A), cx_fAn An pc' = some A → ∀ (σ : List Int) (ls' st' : List Value) (I' : Nat → Nat → Int32) (J' : Nat → Nat → Int64) (R' : Nat → Nat) (T' : List ez_C) (c' k' : Nat), cx_ext σ0 σ → cx_hok B I' R' T' → cx_fr K.2.1 I J I' J' → cx_leT T T' →
      c' + T.length = c + T'.length → k' + cx_mem T = k + cx_mem T' → cx_ok σ A.1 ls' st' I' T' → ev_W X m pc' ls' st' (ev_hp I' J' R' T') c' k' Q) :
    ev_W X m pc ls st (ev_hp I J R T) c k Q := by
  refine cx_run_s (σA := σ0) (org := none) (An := cx_fAn An) (sc := true) hQ hA (fun _ => hX) hX2 hG hok.2.2.1.1 (fun rk0 ho => by cases ho) (fun pc' A' hpc' σ' ls' st' I' J' R' T' c' k' _ hs' hok' => ?_) n first pc K.1 hv σ0 ls st I J R T c k
    ⟨cx_ext_r _, cx_ext_r _, hh, cx_fr_r _ _ _, cx_leT_r T, rfl, rfl⟩ hok
  obtain ⟨s1, -, s3, s4, s5, s6, s7⟩ := hs'
  exact hAn pc' A' hpc' σ' ls' st' I' J' R' T' c' k' s1 s3 s4 s5 s6 s7 hok'
/-- the machine comes to one end -/
theorem ev_W.both {X : ez_X} {m pc : Nat} {ls st : List Value} {h : ez_H} {c k : Nat} {Q1 Q2 : ev_Q} (e1 : ev_W X m pc ls st h c k Q1) (e2 : ev_W X m pc ls st h c k Q2) : ev_W X m pc ls st h c k (fun r h' c' k' => Q1 r h' c' k' ∧ Q2 r h' c' k') := by
  obtain ⟨r1, h1, c1, k1, q1, F1, hF1⟩ := e1
  obtain ⟨r2, h2, c2, k2, q2, F2, hF2⟩ := e2
  have a := hF1 F2
  have b := hF2 F1
  rw [Nat.add_comm F2 F1, a] at b
  injection b with b
  injection b with b1 b
  injection b with b2 b
  injection b with b3 b4
  subst b1 b2 b3 b4
  exact ⟨r1, h1, c1, k1, ⟨q1, q2⟩, F1, hF1⟩
def lw_QL : ev_Q := fun r _ c k => r = some (.int 1) ∧ c ≤ 600000 ∧ k ≤ 7302250
def lw_AO : cx_S := ([(6, 0), (2, 0), (2, 35), (0, 1)], [], [(0, 2048), (0, 2044)], [(1, 0, -4)], [], [])
def lw_Hd : cx_S := ([(6, 0), (2, 0), (2, 35), (0, 2)], [], [(0, 2048), (0, 2044), (4, 2048)], [(2, 1, 4), (1, 2, -4)], [], [])
def lw_pcs : List Nat := [184, 243, 276, 309, 342, 365, 398, 411, 444, 467, 500, 533, 556, 569, 602, 645, 658, 681, 704, 727, 760, 783, 806, 829, 862, 885, 898, 911, 924, 947, 980, 1013, 1026, 1049, 1072]
theorem lw_same : (cl_head_A.all fun e => decide (e.2 = (lw_AO, []))) = true := by decide +kernel
theorem lw_cases : (cl_head_A.all fun e => decide (e.1 ∈ lw_pcs)) = true := by decide +kernel
theorem lw_len {R : Nat → Nat} {T : List ez_C} (h : cx_rows R T) : T.length ≤ cx_mem T := by
  have key : ∀ T : List ez_C, (∀ x ∈ T, ∃ q n, cx_isrow q n x ∧ 1 ≤ n) → T.length ≤ cx_mem T := by
    intro T
    induction T with
    | nil => intro _; exact Nat.le_refl _
    | cons x t ih =>
      intro h
      obtain ⟨q, n, hr, hn⟩ := h x List.mem_cons_self
      have := ih fun y hy => h y (List.mem_cons_of_mem _ hy)
      rw [cx_isrow_mem hr, List.length_cons]
      omega
  exact key T h.1
theorem lw_end {R : Nat → Nat} {T : List ez_C} {τ : List Int} {r : Option Value} {I : Nat → Nat → Int32} {h : ez_H} {c k : Nat} (hR : cx_rows R T) (ho : cx_ok τ ([], [(0, 2)], [(0, 2048), (0, 2048), (1, 1)], [], [], []) [] r.toList I T) (hc : c = 65 + T.length) (hk : k = 121826 + cx_mem T) : lw_QL r h c k := by
  have h1 := lw_len hR
  have h2 := cx_mem_top hR
  obtain ⟨-, o2, o3, -⟩ := ho
  cases r with
  | none => simp [cx_L] at o2
  | some v =>
    obtain ⟨⟨x, rfl, hx⟩, -⟩ := o2
    have hb := o3.2 2 x.toInt (1, 1) hx rfl
    simp only at hb
    have e1 : (1 : Int32).toInt = 1 := by decide
    obtain rfl : x = 1 := cx_i32_eq (by omega)
    exact ⟨rfl, by omega, by omega⟩
theorem lw_at {X : ez_X} {i : Int32} {σ : List Int} {ls st : List Value} {I : Nat → Nat → Int32} {T : List ez_C} (hx : cx_ext [(X.1 : Int), i.toInt] σ) (h : cx_ok σ lw_AO ls st I T) : ∃ i' : Int32, ls = [ez_scr, .ref 0, .ref 35, .int i'] ∧ st = [] ∧ i'.toInt = i.toInt ∧ i'.toInt + 4 ≤ X.1 := by
  obtain ⟨y1, y2, y3, y4, -⟩ := h
  obtain ⟨v1, t1, rfl, rfl, g1⟩ := cx_L_inv y1
  obtain ⟨v2, t2, rfl, rfl, g2⟩ := cx_L_inv g1
  obtain ⟨v3, t3, rfl, rfl, g3⟩ := cx_L_inv g2
  obtain ⟨v4, t4, rfl, ⟨i', rfl, z4⟩, g4⟩ := cx_L_inv g3
  obtain rfl := cx_L_nil g4 rfl
  obtain rfl := cx_L_nil y2 rfl
  have w0 := hx 0 (X.1 : Int) rfl
  have w1 := hx 1 i.toInt rfl
  obtain ⟨p1, p2, o1, o2, o3⟩ := y4 (1, 0, -4) List.mem_cons_self
  simp only at o1 o2 o3
  rw [z4] at w1 o1
  rw [w0] at o2
  injection w1 with w1
  injection o1 with o1
  injection o2 with o2
  exact ⟨i', rfl, rfl, w1, by omega⟩
theorem law_op {G : List (Nat × cx_K)} {K : cx_K} {n pc : Nat} {An : List (Nat × cx_A)} (hG : ∀ g ∈ G, cx_valid cx_B0 g.1 g.2) (hv : cx_run true cx_B0 G K 241 (cx_fAn An) none n false pc K.1 = true) (hK : K.1 = lw_AO) (hA : An = [(18, (lw_Hd, []))]) (hE : K.2.2 = [])
    (X : ez_X) (hL : X.1 ≤ 2048) (i : Int32) (h0 : 0 ≤ i.toInt) (h1 : i.toInt + 4 ≤ X.1) (I : Nat → Nat → Int32) (J : Nat → Nat → Int64) (R : Nat → Nat) (T : List ez_C) (c k : Nat) (hh : cx_hok cx_B0 I R T) {Q : ev_Q}
    (next : ∀ (i2 : Int32) (I2 : Nat → Nat → Int32) (J2 : Nat → Nat → Int64) (R2 : Nat → Nat) (T2 : List ez_C) (c2 k2 : Nat), i2.toInt = i.toInt + 4 → cx_hok cx_B0 I2 R2 T2 → c2 + T.length = c + T2.length → k2 + cx_mem T = k + cx_mem T2 → ev_W X 241 18 [ez_scr, .ref 0, .ref 35, .int i2] [] (ev_hp I2 J2 R2 T2) c2 k2 Q) :
    ev_W X 241 pc [ez_scr, .ref 0, .ref 35, .int i] [] (ev_hp I J R T) c k Q := by
  refine cx_segS cx_hA0 hG hv (σ0 := [(X.1 : Int), i.toInt]) (by omega) rfl hh ?_ ?_ ?_
  · rw [hK]
    exact ⟨⟨rfl, rfl, rfl, ⟨i, rfl, rfl⟩, trivial⟩, trivial, cx_iv_cons (by simp only; omega) (cx_iv_cons (by simp only; omega) cx_iv_nil),
      fun e he => by rw [List.mem_singleton.mp he]; exact ⟨_, _, rfl, rfl, by simp only; omega⟩, fun e he => (by cases he), fun e he => (by cases he)⟩
  · rintro r h' c' k' ⟨I', J', R', T', -, -, -, -, -, -, E, hE2, -⟩
    rw [hE] at hE2
    cases hE2
  · intro pc' A hA2 σ ls' st' I' J' R' T' c' k' x1 x2 x3 x4 x5 x6 x7
    rw [hA] at hA2
    obtain ⟨rfl, rfl⟩ := cx_fAn1 hA2
    obtain ⟨y1, y2, y3, y4, -⟩ := x7
    obtain ⟨v1, t1, rfl, rfl, g1⟩ := cx_L_inv y1
    obtain ⟨v2, t2, rfl, rfl, g2⟩ := cx_L_inv g1
    obtain ⟨v3, t3, rfl, rfl, g3⟩ := cx_L_inv g2
    obtain ⟨v4, t4, rfl, ⟨i', rfl, z4⟩, g4⟩ := cx_L_inv g3
    obtain rfl := cx_L_nil g4 rfl
    obtain rfl := cx_L_nil y2 rfl
    have w1 := x1 1 i.toInt rfl
    obtain ⟨p1, p2, o1, o2, o3⟩ := y4 (2, 1, 4) List.mem_cons_self
    obtain ⟨p3, p4, o4, o5, o6⟩ := y4 (1, 2, -4) (List.mem_cons_of_mem _ List.mem_cons_self)
    simp only at o1 o2 o3 o4 o5 o6
    rw [z4] at o1 o5
    rw [w1] at o2 o4
    injection o1 with o1
    injection o2 with o2
    injection o4 with o4
    injection o5 with o5
    exact next i' I' J' R' T' c' k' (by omega) x2 x5 x6
theorem law_grid (X : ez_X) (hL : X.1 ≤ 2048) (i : Int32) (h0 : 0 ≤ i.toInt) (h1 : i.toInt + 4 ≤ X.1) (I : Nat → Nat → Int32) (J : Nat → Nat → Int64) (R : Nat → Nat) (T : List ez_C) (c k : Nat) (hh : cx_hok cx_B0 I R T) {Q : ev_Q}
    (next : ∀ (i2 : Int32) (I2 : Nat → Nat → Int32) (J2 : Nat → Nat → Int64) (R2 : Nat → Nat) (T2 : List ez_C) (c2 k2 : Nat), i2.toInt = i.toInt + 4 → cx_hok cx_B0 I2 R2 T2 → c2 + T.length = c + T2.length → k2 + cx_mem T = k + cx_mem T2 → ev_W X 241 18 [ez_scr, .ref 0, .ref 35, .int i2] [] (ev_hp I2 J2 R2 T2) c2 k2 Q) :
    ev_W X 241 184 [ez_scr, .ref 0, .ref 35, .int i] [] (ev_hp I J R T) c k Q := sorry
theorem law_l (X : ez_X) (hL : X.1 ≤ 2048) : ∀ (D : Nat) (i : Int32) (I : Nat → Nat → Int32) (J : Nat → Nat → Int64) (R : Nat → Nat) (T : List ez_C) (c k : Nat), (2048 - i.toInt).toNat < D → 0 ≤ i.toInt → i.toInt ≤ 2048 → cx_hok cx_B0 I R T → c = 65 + T.length → k = 121826 + cx_mem T →
    ev_W X 241 18 [ez_scr, .ref 0, .ref 35, .int i] [] (ev_hp I J R T) c k lw_QL := by
  intro D
  induction D with
  | zero => intro i I J R T c k hD; exact absurd hD (Nat.not_lt_zero _)
  | succ D ih =>
    intro i I J R T c k hD h0 h1 hh hc hk
    refine cx_segS (K := cl_head) cx_hA0 cl_head_g cl_head_v (σ0 := [(X.1 : Int), i.toInt]) (by omega) rfl hh
      ⟨⟨rfl, rfl, rfl, ⟨i, rfl, rfl⟩, trivial⟩, trivial, cx_iv_cons (by simp only; omega) (cx_iv_cons ⟨h0, h1⟩ cx_iv_nil), cx_nil, fun e he => (by cases he), fun e he => (by cases he)⟩ ?_ ?_
    · rintro r h' c' k' ⟨I', J', R', T', rfl, q1, -, -, q4, q5, E, hE, τ, -, q7⟩
      have hE : E ∈ [([], [(0, 2)], [(0, 2048), (0, 2048), (1, 1)], [], [], [])] := hE
      rw [List.mem_singleton.mp hE] at q7
      exact lw_end q1.2 q7 (by omega) (by omega)
    · intro pc' A hA σ ls' st' I' J' R' T' c' k' x1 x2 x3 x4 x5 x6 x7
      obtain ⟨e, he, rfl⟩ := Option.map_eq_some_iff.mp hA
      have hm := List.mem_of_find?_eq_some he
      have hp' := List.find?_some he
      have hp := Nat.eq_of_beq_eq_true hp'
      have hA2 : e.2 = (lw_AO, []) := of_decide_eq_true (List.all_eq_true.mp lw_same e hm)
      rw [hA2] at x7
      obtain ⟨i', rfl, rfl, y1, y2⟩ := lw_at (X := X) (i := i) x1 x7
      obtain rfl := cx_i32_eq y1
      have next : ∀ (i2 : Int32) (I2 : Nat → Nat → Int32) (J2 : Nat → Nat → Int64) (R2 : Nat → Nat) (T2 : List ez_C) (c2 k2 : Nat), i2.toInt = i'.toInt + 4 → cx_hok cx_B0 I2 R2 T2 → c2 + T'.length = c' + T2.length → k2 + cx_mem T' = k' + cx_mem T2 → ev_W X 241 18 [ez_scr, .ref 0, .ref 35, .int i2] [] (ev_hp I2 J2 R2 T2) c2 k2 lw_QL :=
        fun i2 I2 J2 R2 T2 c2 k2 g1 g2 g3 g4 => ih i2 I2 J2 R2 T2 c2 k2 (by omega) (by omega) (by omega) g2 (by omega) (by omega)
      have hmem : e.1 ∈ lw_pcs := of_decide_eq_true (List.all_eq_true.mp lw_cases e hm)
      rw [hp] at hmem
      simp only [lw_pcs, List.mem_cons, List.not_mem_nil, or_false] at hmem
      rcases hmem with rfl | rfl | rfl | rfl | rfl | rfl | rfl | rfl | rfl | rfl | rfl | rfl | rfl | rfl | rfl | rfl | rfl | rfl | rfl | rfl | rfl | rfl | rfl | rfl | rfl | rfl | rfl | rfl | rfl | rfl | rfl | rfl | rfl | rfl | rfl
      · exact law_grid X hL i' h0 y2 I' J' R' T' c' k' x2 next
      · exact law_op cl_ship_g cl_ship_v rfl rfl rfl X hL i' h0 y2 I' J' R' T' c' k' x2 next
      · exact law_op cl_set_g cl_set_v rfl rfl rfl X hL i' h0 y2 I' J' R' T' c' k' x2 next
      · exact law_op cl_drift_g cl_drift_v rfl rfl rfl X hL i' h0 y2 I' J' R' T' c' k' x2 next
      · exact law_op cl_spots_g cl_spots_v rfl rfl rfl X hL i' h0 y2 I' J' R' T' c' k' x2 next
      · exact law_op cl_spot_g cl_spot_v rfl rfl rfl X hL i' h0 y2 I' J' R' T' c' k' x2 next
      · exact law_op cl_layings_g cl_layings_v rfl rfl rfl X hL i' h0 y2 I' J' R' T' c' k' x2 next
      · exact law_op cl_laid_g cl_laid_v rfl rfl rfl X hL i' h0 y2 I' J' R' T' c' k' x2 next
      · exact law_op cl_call_g cl_call_v rfl rfl rfl X hL i' h0 y2 I' J' R' T' c' k' x2 next
      · exact law_op cl_salvo_g cl_salvo_v rfl rfl rfl X hL i' h0 y2 I' J' R' T' c' k' x2 next
      · exact law_op cl_answer_g cl_answer_v rfl rfl rfl X hL i' h0 y2 I' J' R' T' c' k' x2 next
      · exact law_op cl_lose_g cl_lose_v rfl rfl rfl X hL i' h0 y2 I' J' R' T' c' k' x2 next
      · exact law_op cl_back_g cl_back_v rfl rfl rfl X hL i' h0 y2 I' J' R' T' c' k' x2 next
      · exact law_op cl_truth_g cl_truth_v rfl rfl rfl X hL i' h0 y2 I' J' R' T' c' k' x2 next
      · exact law_op cl_lies_g cl_lies_v rfl rfl rfl X hL i' h0 y2 I' J' R' T' c' k' x2 next
      · exact law_op cl_left_g cl_left_v rfl rfl rfl X hL i' h0 y2 I' J' R' T' c' k' x2 next
      · exact law_op cl_which_g cl_which_v rfl rfl rfl X hL i' h0 y2 I' J' R' T' c' k' x2 next
      · exact law_op cl_there_g cl_there_v rfl rfl rfl X hL i' h0 y2 I' J' R' T' c' k' x2 next
      · exact law_op cl_sure_g cl_sure_v rfl rfl rfl X hL i' h0 y2 I' J' R' T' c' k' x2 next
      · exact law_op cl_part_g cl_part_v rfl rfl rfl X hL i' h0 y2 I' J' R' T' c' k' x2 next
      · exact law_op cl_best_g cl_best_v rfl rfl rfl X hL i' h0 y2 I' J' R' T' c' k' x2 next
      · exact law_op cl_bestSalvo_g cl_bestSalvo_v rfl rfl rfl X hL i' h0 y2 I' J' R' T' c' k' x2 next
      · exact law_op cl_need_g cl_need_v rfl rfl rfl X hL i' h0 y2 I' J' R' T' c' k' x2 next
      · exact law_op cl_calls_g cl_calls_v rfl rfl rfl X hL i' h0 y2 I' J' R' T' c' k' x2 next
      · exact law_op cl_hardest_g cl_hardest_v rfl rfl rfl X hL i' h0 y2 I' J' R' T' c' k' x2 next
      · exact law_op cl_stray_g cl_stray_v rfl rfl rfl X hL i' h0 y2 I' J' R' T' c' k' x2 next
      · exact law_op cl_blame_g cl_blame_v rfl rfl rfl X hL i' h0 y2 I' J' R' T' c' k' x2 next
      · exact law_op cl_blamed_g cl_blamed_v rfl rfl rfl X hL i' h0 y2 I' J' R' T' c' k' x2 next
      · exact law_op cl_switched_g cl_switched_v rfl rfl rfl X hL i' h0 y2 I' J' R' T' c' k' x2 next
      · exact law_op cl_count_g cl_count_v rfl rfl rfl X hL i' h0 y2 I' J' R' T' c' k' x2 next
      · exact law_op cl_rim_g cl_rim_v rfl rfl rfl X hL i' h0 y2 I' J' R' T' c' k' x2 next
      · exact law_op cl_fitting_g cl_fitting_v rfl rfl rfl X hL i' h0 y2 I' J' R' T' c' k' x2 next
      · exact law_op cl_clues_g cl_clues_v rfl rfl rfl X hL i' h0 y2 I' J' R' T' c' k' x2 next
      · exact law_op cl_many_g cl_many_v rfl rfl rfl X hL i' h0 y2 I' J' R' T' c' k' x2 next
      · exact law_op cl_none_g cl_none_v rfl rfl rfl X hL i' h0 y2 I' J' R' T' c' k' x2 next
