/-! What the law's loop keeps: both keys the same, each ship's row in the class the set that the reference's shape and turns have. -/
/-- behind a call: its answer, the world, no more room than told -/
def lw_mid (T : List ez_C) (M : Int32 → (Nat → Nat → Int32) → (Nat → Nat → Int64) → (Nat → Nat) → List ez_C → Prop) : ev_Q := fun r h c k => ∃ (v : Int32) (I' : Nat → Nat → Int32) (J' : Nat → Nat → Int64) (R' : Nat → Nat) (T' : List ez_C), r = some (.int v) ∧ h = ev_hp I' J' R' T' ∧ cx_hok cx_B0 I' R' T' ∧ c + T.length = T'.length ∧ k + cx_mem T = cx_mem T' ∧ M v I' J' R' T'
def lw_midL (T : List ez_C) (M : Int64 → (Nat → Nat → Int32) → (Nat → Nat → Int64) → (Nat → Nat) → List ez_C → Prop) : ev_Q := fun r h c k => ∃ (v : Int64) (I' : Nat → Nat → Int32) (J' : Nat → Nat → Int64) (R' : Nat → Nat) (T' : List ez_C), r = some (.long v) ∧ h = ev_hp I' J' R' T' ∧ cx_hok cx_B0 I' R' T' ∧ c + T.length = T'.length ∧ k + cx_mem T = cx_mem T' ∧ M v I' J' R' T'
section
variable {I I' I1 : Nat → Nat → Int32} {J J' J1 : Nat → Nat → Int64} {R R' R1 : Nat → Nat} {T T' T1 : List ez_C}
theorem hp_T (e : ev_hp I J R T = ev_hp I' J' R' T') : T = T' := by
  rw [cx_hp_is, cx_hp_is] at e
  exact (List.append_inj e (by rw [cx_mk_len, cx_mk_len])).2
/-- cells that a method's word says nothing of -/
def fr_no (md : List (Nat × Nat)) (a : Nat) : Bool := !(md.any fun e => Nat.beq e.1 a)
theorem fr_may {md : List (Nat × Nat)} {a : Nat} (h : fr_no md a = true) (k : Nat) : cx_may md a k = false := by
  unfold fr_no at h
  cases hz : cx_may md a k with
  | false => rfl
  | true =>
    obtain ⟨e, he, h1⟩ := List.any_eq_true.mp hz
    have h2 : (md.any fun e => Nat.beq e.1 a) = true := List.any_eq_true.mpr ⟨e, he, (Bool.and_eq_true_iff.mp h1).1⟩
    rw [h2] at h
    cases h
theorem fr_I {md : List (Nat × Nat)} {a : Nat} (h : fr_no md a = true) (hf : cx_fr md I J I' J') : I' a = I a := funext fun k => (hf a k (fr_may h k)).1
theorem fr_J {md : List (Nat × Nat)} {a : Nat} (h : fr_no md a = true) (hf : cx_fr md I J I' J') : J' a = J a := funext fun k => (hf a k (fr_may h k)).2
theorem fr_f {md : List (Nat × Nat)} {a k : Nat} (h : cx_may md a k = false) (hf : cx_fr md I J I' J') : I' a k = I a k := (hf a k h).1
/-- the ships -/
def fi (I : Nat → Nat → Int32) (J : Nat → Nat → Int64) : Prop := ∀ s : Nat, s < (I 35 3).toInt.toNat → ∃ n sh tn, fi1 I s sh tn ∧ I 5 s = Int32.ofNat n ∧ srt (J 4) (288 * s) n ∧ n ≤ 288 ∧ ∀ w, inrow (J 4) (288 * s) n w ↔ sp_M (I 35 0) (I 35 1) (I 35 2) sh (sp_k tn) w
def rl (I : Nat → Nat → Int32) (J : Nat → Nat → Int64) : Prop := kx I = km I ∧ fi I J
theorem km_0 (e : kx I = km I) : I 1 3 = I 35 0 ∧ I 1 4 = I 35 1 ∧ I 1 5 = I 35 2 ∧ I 3 3 = I 35 3 := by
  refine ⟨congrArg (fun K => K.1) e, congrArg (fun K => K.2.1) e, congrArg (fun K => K.2.2.1) e, congrArg (fun K => kt_sh K) e⟩
theorem fi_same (h : fi I J) (h3 : I' 35 3 = I 35 3) (h0 : I' 35 0 = I 35 0) (h1 : I' 35 1 = I 35 1) (h2 : I' 35 2 = I 35 2) (h36 : I' 36 = I 36) (h37 : I' 37 = I 37) (h5 : I' 5 = I 5) (h4 : J' 4 = J 4) : fi I' J' := by
  intro s hs
  rw [h3] at hs
  obtain ⟨n, sh, tn, f1, f2, f3, f4, f5⟩ := h s hs
  refine ⟨n, sh, tn, ?_, by rw [h5]; exact f2, by rw [h4]; exact f3, f4, fun w => by rw [h4, h0, h1, h2]; exact f5 w⟩
  unfold fi1
  rw [h36, h37]
  exact f1
def fi_fr (md : List (Nat × Nat)) : Bool := !cx_may md 35 0 && (!cx_may md 35 1 && (!cx_may md 35 2 && (!cx_may md 35 3 && (fr_no md 36 && (fr_no md 37 && (fr_no md 5 && fr_no md 4))))))
theorem fi_fr_s {md : List (Nat × Nat)} (h : fi_fr md = true) (hf : cx_fr md I J I' J') (hi : fi I J) : fi I' J' := by
  unfold fi_fr at h
  simp only [Bool.and_eq_true, Bool.not_eq_true'] at h
  obtain ⟨h0, h1, h2, h3, h4, h5, h6, h7⟩ := h
  exact fi_same hi (fr_f h3 hf) (fr_f h0 hf) (fr_f h1 hf) (fr_f h2 hf) (fr_I h4 hf) (fr_I h5 hf) (fr_I h6 hf) (fr_J h7 hf)
theorem fi_none (h : I 35 3 = 0) : fi I J := by
  intro s hs
  rw [h, show ((0 : Int32).toInt.toNat) = 0 from by decide] at hs
  omega
theorem rl_hp (e : ev_hp I J R T = ev_hp I' J' R' T') (h : rl I J) : rl I' J' := by
  have f : ∀ k, (k = 0 ∨ k = 1 ∨ k = 2 ∨ k = 3) → I' 35 k = I 35 k := by
    intro k hk
    rcases hk with rfl | rfl | rfl | rfl <;> exact (hp_fld (n := 0) (show cx_Ds[35]? = some (0 + 2, _, _) from rfl) rfl e).symm
  refine ⟨by rw [← kx_hp e, ← km_hp e]; exact h.1, fi_same h.2 (f 3 (by decide)) (f 0 (by decide)) (f 1 (by decide)) (f 2 (by decide)) (hp_row (show cx_Ds[36]? = some (0, _, _) from rfl) e).symm (hp_row (show cx_Ds[37]? = some (0, _, _) from rfl) e).symm (hp_row (show cx_Ds[5]? = some (0, _, _) from rfl) e).symm (hp_rowJ (show cx_Ds[4]? = some (1, _, _) from rfl) e).symm⟩
end
/-! A call's key, and all that it leaves. -/
def mi_k (md : List (Nat × Nat)) (f : kt_K → Int32 × kt_K) (I : Nat → Nat → Int32) (J : Nat → Nat → Int64) : Int32 → (Nat → Nat → Int32) → (Nat → Nat → Int64) → (Nat → Nat) → List ez_C → Prop := fun v I' J' _ _ => (v, kx I') = f (kx I) ∧ km I' = km I ∧ cx_fr md I J I' J'
def mi_m (md : List (Nat × Nat)) (f : kt_K → Int32 × kt_K) (I : Nat → Nat → Int32) (J : Nat → Nat → Int64) : Int32 → (Nat → Nat → Int32) → (Nat → Nat → Int64) → (Nat → Nat) → List ez_C → Prop := fun v I' J' _ _ => (v, km I') = f (km I) ∧ kx I' = kx I ∧ cx_fr md I J I' J'
section
variable {X : ez_X} {m : Nat} {K : cx_K} {as : List Value} {σ0 : List Int} {I : Nat → Nat → Int32} {J : Nat → Nat → Int64} {R : Nat → Nat} {T : List ez_C} {f : kt_K → Int32 × kt_K}
theorem lx_k (hv : cx_valid cx_B0 m K) (hf : kt_fm K.2.1 = true) (hX2 : X.1 < 2 ^ 31) (hh : cx_hok cx_B0 I R T) (hok : cx_ok σ0 K.1 (ez_lay as) [] I T) (he : ev_W X m 0 (ez_lay as) [] (ev_hp I J R T) 0 0 (kp_E kx f I)) : ev_W X m 0 (ez_lay as) [] (ev_hp I J R T) 0 0 (lw_mid T (mi_k K.2.1 f I J)) := by
  refine (he.both (hv X σ0 _ I J R T hX2 hh hok)).mono ?_
  rintro r h' c' k' ⟨⟨v, I1, J1, R1, T1, e1, e2, e3⟩, I', J', R', T', q1, q2, q3, q4, q5, q6, -⟩
  exact ⟨v, I', J', R', T', e1, q1, q2, by omega, by omega, by rw [← kx_hp (e2.symm.trans q1)]; exact e3, km_fr hf q3, q3⟩
theorem lm_k (hv : cx_valid cx_B0 m K) (hf : kt_fx K.2.1 = true) (hX2 : X.1 < 2 ^ 31) (hh : cx_hok cx_B0 I R T) (hok : cx_ok σ0 K.1 (ez_lay as) [] I T) (he : ev_W X m 0 (ez_lay as) [] (ev_hp I J R T) 0 0 (kp_E km f I)) : ev_W X m 0 (ez_lay as) [] (ev_hp I J R T) 0 0 (lw_mid T (mi_m K.2.1 f I J)) := by
  refine (he.both (hv X σ0 _ I J R T hX2 hh hok)).mono ?_
  rintro r h' c' k' ⟨⟨v, I1, J1, R1, T1, e1, e2, e3⟩, I', J', R', T', q1, q2, q3, q4, q5, q6, -⟩
  exact ⟨v, I', J', R', T', e1, q1, q2, by omega, by omega, by rw [← km_hp (e2.symm.trans q1)]; exact e3, kx_fr hf q3, q3⟩
/-- what is known of every end, of a method whose word is known -/
theorem lx_p {M : Int32 → (Nat → Nat → Int32) → (Nat → Nat → Int64) → (Nat → Nat) → List ez_C → Prop} {Q2 : pw_Q} (hv : cx_valid cx_B0 m K) (hX2 : X.1 < 2 ^ 31) (hh : cx_hok cx_B0 I R T) (hok : cx_ok σ0 K.1 (ez_lay as) [] I T) (hp : ∀ N, pe N X m as (ev_hp I J R T) Q2)
    (hM : ∀ (r : Option Value) (h1 : ez_H) I' J' R' T', Q2 r h1 → h1 = ev_hp I' J' R' T' → cx_fr K.2.1 I J I' J' → cx_hok cx_B0 I' R' T' → ∃ v, r = some (.int v) ∧ M v I' J' R' T') : ev_W X m 0 (ez_lay as) [] (ev_hp I J R T) 0 0 (lw_mid T M) := by
  refine (W_pe (hv X σ0 _ I J R T hX2 hh hok) hp).mono ?_
  rintro r h' c' k' ⟨⟨I', J', R', T', q1, q2, q3, q4, q5, q6, -⟩, hq⟩
  obtain ⟨v, e, hm⟩ := hM r h' I' J' R' T' hq q1 q3 q2
  exact ⟨v, I', J', R', T', e, q1, q2, by omega, by omega, hm⟩
theorem lx_pL {M : Int64 → (Nat → Nat → Int32) → (Nat → Nat → Int64) → (Nat → Nat) → List ez_C → Prop} {Q2 : pw_Q} (hv : cx_valid cx_B0 m K) (hX2 : X.1 < 2 ^ 31) (hh : cx_hok cx_B0 I R T) (hok : cx_ok σ0 K.1 (ez_lay as) [] I T) (hp : ∀ N, pe N X m as (ev_hp I J R T) Q2)
    (hM : ∀ (r : Option Value) (h1 : ez_H) I' J' R' T', Q2 r h1 → h1 = ev_hp I' J' R' T' → cx_fr K.2.1 I J I' J' → cx_hok cx_B0 I' R' T' → ∃ v, r = some (.long v) ∧ M v I' J' R' T') : ev_W X m 0 (ez_lay as) [] (ev_hp I J R T) 0 0 (lw_midL T M) := by
  refine (W_pe (hv X σ0 _ I J R T hX2 hh hok) hp).mono ?_
  rintro r h' c' k' ⟨⟨I', J', R', T', q1, q2, q3, q4, q5, q6, -⟩, hq⟩
  obtain ⟨v, e, hm⟩ := hM r h' I' J' R' T' hq q1 q3 q2
  exact ⟨v, I', J', R', T', e, q1, q2, by omega, by omega, hm⟩
/-- the same key again, and the ships -/
theorem rl_k {md md2 : List (Nat × Nat)} {I1 I2 : Nat → Nat → Int32} {J1 J2 : Nat → Nat → Int64} {u v : Int32} {R1 R2 : Nat → Nat} {T1 T2 : List ez_C} (h1 : fi_fr md = true) (h2 : fi_fr md2 = true) (hr : rl I J) (hx : mi_k md f I J v I1 J1 R1 T1) (hm : mi_m md2 f I1 J1 u I2 J2 R2 T2) : u = v ∧ rl I2 J2 := by
  obtain ⟨x1, x2, x3⟩ := hx
  obtain ⟨m1, m2, m3⟩ := hm
  rw [x2, ← hr.1] at m1
  have huv := x1.trans m1.symm
  exact ⟨(congrArg Prod.fst huv).symm, by rw [m2]; exact congrArg Prod.snd huv, fi_fr_s h2 m3 (fi_fr_s h1 x3 hr.2)⟩
end
/-! a word on no int, one, two, three ints -/
section
variable {I : Nat → Nat → Int32} {T : List ez_C} {o p : Nat} {x y z : Int32}
theorem ao_0 : cx_ok [] ([(2, o)], [], [], [], [], []) (ez_lay [.ref o]) [] I T := ⟨⟨rfl, trivial⟩, trivial, cx_iv_nil, cx_nil, fun e he => (by cases he), fun e he => (by cases he)⟩
theorem ao_1 : cx_ok [x.toInt] ([(2, o), (0, 0)], [], [cx_i32], [], [], []) (ez_lay [.ref o, .int x]) [] I T := ⟨⟨rfl, ⟨x, rfl, rfl⟩, trivial⟩, trivial, cx_iv_cons (cx_full32 x) cx_iv_nil, cx_nil, fun e he => (by cases he), fun e he => (by cases he)⟩
theorem ao_2 : cx_ok [x.toInt, y.toInt] ([(2, o), (0, 0), (0, 1)], [], [cx_i32, cx_i32], [], [], []) (ez_lay [.ref o, .int x, .int y]) [] I T := ⟨⟨rfl, ⟨x, rfl, rfl⟩, ⟨y, rfl, rfl⟩, trivial⟩, trivial, cx_iv_cons (cx_full32 x) (cx_iv_cons (cx_full32 y) cx_iv_nil), cx_nil, fun e he => (by cases he), fun e he => (by cases he)⟩
theorem ao_3 : cx_ok [x.toInt, y.toInt, z.toInt] ([(2, o), (0, 0), (0, 1), (0, 2)], [], [cx_i32, cx_i32, cx_i32], [], [], []) (ez_lay [.ref o, .int x, .int y, .int z]) [] I T := ⟨⟨rfl, ⟨x, rfl, rfl⟩, ⟨y, rfl, rfl⟩, ⟨z, rfl, rfl⟩, trivial⟩, trivial, cx_iv_cons (cx_full32 x) (cx_iv_cons (cx_full32 y) (cx_iv_cons (cx_full32 z) cx_iv_nil)), cx_nil, fun e he => (by cases he), fun e he => (by cases he)⟩
theorem ao_g (hb : z = 0 ∨ z = 1) : cx_ok [x.toInt, y.toInt, z.toInt] ([(2, o), (0, 0), (0, 1), (0, 2)], [], [cx_i32, cx_i32, (0, 1)], [], [], []) (ez_lay [.ref o, .int x, .int y, .int z]) [] I T := ⟨⟨rfl, ⟨x, rfl, rfl⟩, ⟨y, rfl, rfl⟩, ⟨z, rfl, rfl⟩, trivial⟩, trivial, cx_iv_cons (cx_full32 x) (cx_iv_cons (cx_full32 y) (cx_iv_cons (by rcases hb with rfl | rfl <;> exact ⟨by decide, by decide⟩) cx_iv_nil)), cx_nil, fun e he => (by cases he), fun e he => (by cases he)⟩
end
