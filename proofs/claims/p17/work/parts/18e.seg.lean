/-! Roads between told places, for proofs by hand. -/
theorem cx_seg {B : Nat → Nat → cx_Iv} {G : List (Nat × cx_K)} {K : cx_K} {m n pc : Nat} {An : List (Nat × cx_A)} {first : Bool} (hA : cx_hA B) (hG : ∀ g ∈ G, cx_valid B g.1 g.2) (hv : cx_run false B G K m (cx_fAn An) none n first pc K.1 = true)
    {X : ez_X} {σ0 : List Int} {ls st : List Value} {I : Nat → Nat → Int32} {J : Nat → Nat → Int64} {R : Nat → Nat} {T : List ez_C} {c k : Nat} {Q : ev_Q} (hX2 : X.1 < 2 ^ 31) (hh : cx_hok B I R T) (hok : cx_ok σ0 K.1 ls st I T)
    (hQ : ∀ r h' c' k', cx_post B K σ0 I J T c k r h' c' k' → Q r h' c' k')
    (hAn : ∀ (pc' : Nat) (A : cx_A), cx_fAn An pc' = some A → ∀ (σ : List Int) (ls' st' : List Value) (I' : Nat → Nat → Int32) (J' : Nat → Nat → Int64) (R' : Nat → Nat) (T' : List ez_C) (c' k' : Nat), cx_ext σ0 σ → cx_hok B I' R' T' → cx_fr K.2.1 I J I' J' → cx_leT T T' →
      c' + T.length = c + T'.length → k' + cx_mem T = k + cx_mem T' → cx_ok σ A.1 ls' st' I' T' → ev_W X m pc' ls' st' (ev_hp I' J' R' T') c' k' Q) :
    ev_W X m pc ls st (ev_hp I J R T) c k Q := by
  refine cx_run_s (σA := σ0) (org := none) (An := cx_fAn An) (sc := false) hQ hA (fun z => by cases z) hX2 hG hok.2.2.1.1 (fun rk0 ho => by cases ho) (fun pc' A' hpc' σ' ls' st' I' J' R' T' c' k' _ hs' hok' => ?_) n first pc K.1 hv σ0 ls st I J R T c k
    ⟨cx_ext_r _, cx_ext_r _, hh, cx_fr_r _ _ _, cx_leT_r T, rfl, rfl⟩ hok
  obtain ⟨s1, -, s3, s4, s5, s6, s7⟩ := hs'
  exact hAn pc' A' hpc' σ' ls' st' I' J' R' T' c' k' s1 s3 s4 s5 s6 s7 hok'
/-- signs that are told one by one -/
theorem cx_iv_cons {σ : List Int} {iv : List cx_Iv} {v : Int} {p : cx_Iv} (h : p.1 ≤ v ∧ v ≤ p.2) (t : cx_iv σ iv) : cx_iv (v :: σ) (p :: iv) := by
  refine ⟨by simp [t.1], fun s w q h1 h2 => ?_⟩
  cases s with
  | zero =>
    simp at h1 h2
    rw [← h1, ← h2]
    exact h
  | succ s => simp at h1 h2; exact t.2 s w q h1 h2
theorem cx_iv_nil : cx_iv [] [] := ⟨rfl, fun s v p h => by simp at h⟩
theorem cx_i32_eq {x y : Int32} (h : x.toInt = y.toInt) : x = y := Int32.toInt_inj.mp h
theorem cx_fAn1 {p pc : Nat} {A A' : cx_A} (h : cx_fAn [(p, A)] pc = some A') : pc = p ∧ A' = A := by
  obtain ⟨e, he, rfl⟩ := Option.map_eq_some_iff.mp h
  have hm := List.mem_of_find?_eq_some he
  have hp := List.find?_some he
  rw [List.mem_singleton.mp hm] at hp ⊢
  exact ⟨(Nat.eq_of_beq_eq_true hp).symm, rfl⟩
theorem cx_fAn2 {p q pc : Nat} {A C A' : cx_A} (h : cx_fAn [(p, A), (q, C)] pc = some A') : (pc = p ∧ A' = A) ∨ (pc = q ∧ A' = C) := by
  obtain ⟨e, he, rfl⟩ := Option.map_eq_some_iff.mp h
  have hm := List.mem_of_find?_eq_some he
  have hp := List.find?_some he
  rcases List.mem_cons.mp hm with e1 | e1
  · rw [e1] at hp ⊢
    exact Or.inl ⟨(Nat.eq_of_beq_eq_true hp).symm, rfl⟩
  · rw [List.mem_singleton.mp e1] at hp ⊢
    exact Or.inr ⟨(Nat.eq_of_beq_eq_true hp).symm, rfl⟩
