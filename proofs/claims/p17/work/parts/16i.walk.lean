/-! The runner is sound. -/
def cx_pot (n : Nat) : Nat := if n < 10000 then 2 * n else 30000
def cx_mem : List ez_C → Nat
  | [] => 0
  | .inl (n, _) :: t => n + cx_mem t
  | .inr _ :: t => cx_mem t
/-- rows made anew: of their kinds, none empty, and no more room taken than their present lengths allow -/
def cx_rows (R : Nat → Nat) (T : List ez_C) : Prop := (∀ x ∈ T, ∃ q n, cx_isrow q n x ∧ 1 ≤ n) ∧
  ∃ n0 n1 n4 : Nat, cx_rowl T 0 (R 0) n0 ∧ cx_rowl T 1 (R 1) n1 ∧ cx_rowl T 1 (R 2) n1 ∧ cx_rowl T 1 (R 3) n1 ∧ cx_rowl T 0 (R 4) n4 ∧
    n0 ≤ 10000 ∧ n1 ≤ 10000 ∧ n4 ≤ 10000 ∧ cx_mem T ≤ cx_pot n0 + 3 * cx_pot n1 + cx_pot n4
def cx_hok (B : Nat → Nat → cx_Iv) (I : Nat → Nat → Int32) (R : Nat → Nat) (T : List ez_C) : Prop := cx_hB B I ∧ cx_rows R T
def cx_post (B : Nat → Nat → cx_Iv) (K : cx_K) (σ0 : List Int) (I0 : Nat → Nat → Int32) (J0 : Nat → Nat → Int64) (T0 : List ez_C) (c0 k0 : Nat) : ev_Q := fun r h' c' k' =>
  ∃ I' J' R' T', h' = ev_hp I' J' R' T' ∧ cx_hok B I' R' T' ∧ cx_fr K.2.1 I0 J0 I' J' ∧ cx_leT T0 T' ∧ c' + T0.length = c0 + T'.length ∧ k' + cx_mem T0 = k0 + cx_mem T' ∧
    ∃ E ∈ K.2.2, ∃ τ, cx_ext σ0 τ ∧ cx_ok τ E [] r.toList I' T'
/-- the method keeps what K says of it -/
def cx_valid (B : Nat → Nat → cx_Iv) (m : Nat) (K : cx_K) : Prop := ∀ (X : ez_X) (σ0 : List Int) (ls : List Value) (I : Nat → Nat → Int32) (J : Nat → Nat → Int64) (R : Nat → Nat) (T : List ez_C),
  X.1 < 2 ^ 31 → cx_hok B I R T → cx_ok σ0 K.1 ls [] I T → ev_W X m 0 ls [] (ev_hp I J R T) 0 0 (cx_post B K σ0 I J T 0 0)
def cx_sit (B : Nat → Nat → cx_Iv) (K : cx_K) (σ0 σA : List Int) (I0 : Nat → Nat → Int32) (J0 : Nat → Nat → Int64) (T0 : List ez_C) (c0 k0 : Nat) (σ : List Int) (I : Nat → Nat → Int32) (J : Nat → Nat → Int64) (R : Nat → Nat) (T : List ez_C) (c k : Nat) : Prop :=
  cx_ext σ0 σ ∧ cx_ext σA σ ∧ cx_hok B I R T ∧ cx_fr K.2.1 I0 J0 I J ∧ cx_leT T0 T ∧ c + T0.length = c0 + T.length ∧ k + cx_mem T0 = k0 + cx_mem T
def cx_good (X : ez_X) (m : Nat) (B : Nat → Nat → cx_Iv) (K : cx_K) (σ0 σA : List Int) (I0 : Nat → Nat → Int32) (J0 : Nat → Nat → Int64) (T0 : List ez_C) (c0 k0 : Nat) (Q : ev_Q) (pc : Nat) (S : cx_S) : Prop :=
  ∀ (σ : List Int) (ls st : List Value) (I : Nat → Nat → Int32) (J : Nat → Nat → Int64) (R : Nat → Nat) (T : List ez_C) (c k : Nat),
    cx_sit B K σ0 σA I0 J0 T0 c0 k0 σ I J R T c k → cx_ok σ S ls st I T → ev_W X m pc ls st (ev_hp I J R T) c k Q
theorem cx_rows_R {R : Nat → Nat} {T : List ez_C} (h : cx_rows R T) : ∀ i, i ≤ 4 → cx_row T (cx_rk i) (R i) := by
  obtain ⟨-, n0, n1, n4, h0, h1, h2, h3, h4, -⟩ := h
  intro i hi
  match i, hi with
  | 0, _ => exact ⟨n0, h0⟩
  | 1, _ => exact ⟨n1, h1⟩
  | 2, _ => exact ⟨n1, h2⟩
  | 3, _ => exact ⟨n1, h3⟩
  | 4, _ => exact ⟨n4, h4⟩
theorem cx_fr_t {md : List (Nat × Nat)} {I I' I'' : Nat → Nat → Int32} {J J' J'' : Nat → Nat → Int64} (h : cx_fr md I J I' J') (h' : cx_fr md I' J' I'' J'') : cx_fr md I J I'' J'' := by
  intro a k hm
  obtain ⟨a1, a2⟩ := h a k hm
  obtain ⟨b1, b2⟩ := h' a k hm
  exact ⟨b1.trans a1, b2.trans a2⟩
theorem cx_pick_ext {σ0 σ : List Int} {mu : List Nat} {ne : Nat} (hl : σ0.length = ne) (hm : ∀ j, j < ne → mu[j]? = some j) (he : cx_ext σ0 σ) : cx_ext σ0 (cx_pick σ mu) := by
  intro s v h
  have hs := (List.getElem?_eq_some_iff.mp h).1
  exact cx_pick_s (hm s (by omega)) (he s v h)
section CXU
variable {X : ez_X} {m : Nat} {B : Nat → Nat → cx_Iv} {K : cx_K} {σ0 σA : List Int} {I0 : Nat → Nat → Int32} {J0 : Nat → Nat → Int64} {T0 : List ez_C} {c0 k0 : Nat} {G : List (Nat × cx_K)}
variable {σ : List Int} {I : Nat → Nat → Int32} {J : Nat → Nat → Int64} {R : Nat → Nat} {T : List ez_C} {c k : Nat} {l s : List Value} {ls st : List cx_V} {iv : List cx_Iv} {cs : List cx_D3} {fs cm : List (Nat × Nat × Nat)}
theorem cx_ends_s (hl : σ0.length = K.1.2.2.1.length) (hs : cx_sit B K σ0 σA I0 J0 T0 c0 k0 σ I J R T c k) {r : Option Value} (h : cx_ok σ (ls, st, iv, cs, fs, cm) l r.toList I T)
    (hc : cx_ends B K ([], st, iv, cs, fs, []) = true) : cx_post B K σ0 I0 J0 T0 c0 k0 r (ev_hp I J R T) c k := by
  obtain ⟨s1, s2, s3, s4, s5, s6, s7⟩ := hs
  refine ⟨I, J, R, T, rfl, s3, s4, s5, s6, s7, ?_⟩
  obtain ⟨E, hE, h2⟩ := List.any_eq_true.mp hc
  obtain ⟨mu, hmu⟩ := Option.isSome_iff_exists.mp h2
  obtain ⟨τ, t1, t2⟩ := cx_aug_s (B := B) (l := []) s3.1 E.2.2.2.2.1 (σ := σ) (S := ([], st, iv, cs, fs, [])) ⟨trivial, h.2.1, h.2.2.1, h.2.2.2.1, h.2.2.2.2.1, fun e he => by cases he⟩
  obtain ⟨g1, g2, -⟩ := cx_imp_s t2 hmu
  exact ⟨E, hE, _, cx_pick_ext hl g2 (cx_ext_t s1 t1), g1⟩
/-! lists of numbers that fall -/
def cx_lt : List Nat → List Nat → Prop
  | a :: s, b :: t => (a < b ∧ s.length = t.length) ∨ (a ≤ b ∧ cx_lt s t)
  | _, _ => False
theorem cx_lt_len : ∀ {s t : List Nat}, cx_lt s t → s.length = t.length := by
  intro s
  induction s with
  | nil => intro t h; cases t <;> simp [cx_lt] at h
  | cons a s ih =>
    intro t h
    cases t with
    | nil => simp [cx_lt] at h
    | cons b t =>
      rcases h with ⟨-, h⟩ | ⟨-, h⟩
      · simp [h]
      · simp [ih h]
theorem cx_lt_acc : ∀ (n : Nat) (l : List Nat), l.length = n → Acc cx_lt l := by
  intro n
  induction n with
  | zero =>
    intro l hl
    refine Acc.intro _ fun y hy => ?_
    have h1 := cx_lt_len hy
    rw [hl] at h1
    cases y with
    | nil => cases l <;> simp [cx_lt] at hy
    | cons a y => simp at h1
  | succ n ih =>
    have key : ∀ (b : Nat), (∀ a, a < b → ∀ t, t.length = n → Acc cx_lt (a :: t)) → ∀ t, t.length = n → Acc cx_lt (b :: t) := by
      intro b hb t ht
      have ha := ih t ht
      induction ha with
      | intro t _ ih2 =>
        refine Acc.intro _ fun y hy => ?_
        cases y with
        | nil => simp [cx_lt] at hy
        | cons a s =>
          rcases hy with ⟨h1, h2⟩ | ⟨h1, h2⟩
          · exact hb a h1 s (by omega)
          · have h3 := cx_lt_len h2
            rcases Nat.lt_or_eq_of_le h1 with h4 | h4
            · exact hb a h4 s (by omega)
            · rw [h4]; exact ih2 s h2 (by omega)
    have all : ∀ (b : Nat) (t : List Nat), t.length = n → Acc cx_lt (b :: t) := by
      intro b
      induction b using Nat.strongRecOn with
      | ind b hb => exact key b fun a ha t ht => hb a ha t ht
    intro l hl
    cases l with
    | nil => simp at hl
    | cons b t => exact all b t (by simpa using hl)
theorem cx_dec_s {mu : List Nat} (hi : cx_iv σ iv) (hc : cx_cs σ cs) (hm : ∀ t ∈ mu, ∃ v, σ[t]? = some v) : ∀ {rk rk0 : List (Nat × Nat)}, (∀ e ∈ rk0, e.1 = 0 ∨ ∃ v, σ[e.2]? = some v) → cx_dec iv cs mu rk rk0 = true →
    cx_lt (rk.map (cx_val (cx_pick σ mu))) (rk0.map (cx_val σ)) := by
  intro rk
  induction rk with
  | nil => intro rk0 _ h; simp [cx_dec] at h
  | cons e s ih =>
    intro rk0 h0 h
    have hlen : ∀ t : List (Nat × Nat), Nat.beq s.length t.length = true → (s.map (cx_val (cx_pick σ mu))).length = (t.map (cx_val σ)).length := fun t z => by
      have := Nat.eq_of_beq_eq_true z
      simp [this]
    unfold cx_dec at h
    split at h
    · rename_i c s' d t heq
      injection heq with e1 e2
      subst e1 e2
      rcases Bool.or_eq_true_iff.mp h with g | g
      · obtain ⟨g1, g2⟩ := Bool.and_eq_true_iff.mp g
        exact Or.inl ⟨Nat.le_of_ble_eq_true g1, hlen t g2⟩
      · obtain ⟨g1, g2⟩ := Bool.and_eq_true_iff.mp g
        have g1 := Nat.eq_of_beq_eq_true g1
        exact Or.inr ⟨by simp only [cx_val]; omega, ih (fun e he => h0 e (List.mem_cons_of_mem _ he)) g2⟩
    · rename_i a s' b t heq
      injection heq with e1 e2
      subst e1 e2
      split at h
      · rename_i x hx
        obtain ⟨v, hv⟩ := hm x (List.mem_of_getElem? hx)
        obtain ⟨w, hw⟩ : ∃ w, σ[b]? = some w := by
          rcases h0 (1, b) List.mem_cons_self with z | z
          · cases z
          · exact z
        have e1 : cx_val (cx_pick σ mu) (1, a) = (2147483648 - v).toNat := by simp only [cx_val, cx_pick_s hx hv, Option.getD_some]
        have e2 : cx_val σ (1, b) = (2147483648 - w).toNat := by simp only [cx_val, hw, Option.getD_some]
        simp only [List.map_cons]
        rw [e1, e2]
        rcases Bool.or_eq_true_iff.mp h with g | g
        · split at g
          · rename_i p hp
            obtain ⟨g1, g2⟩ := Bool.and_eq_true_iff.mp g
            obtain ⟨g2, g3⟩ := Bool.and_eq_true_iff.mp g2
            have g1 := of_decide_eq_true g1
            have b1 := hi.2 _ _ _ hv hp
            have g2 := cx_ent_s hi hc 3 b x _ w v g2 hw hv
            exact Or.inl ⟨by omega, hlen t g3⟩
          · cases g
        · obtain ⟨g1, g2⟩ := Bool.and_eq_true_iff.mp g
          have g1 := cx_ent_s hi hc 3 b x _ w v g1 hw hv
          exact Or.inr ⟨by omega, ih (fun e he => h0 e (List.mem_cons_of_mem _ he)) g2⟩
      · cases h
    · rename_i a s' b t heq
      injection heq with e1 e2
      subst e1 e2
      split at h
      · rename_i x hx
        obtain ⟨v, hv⟩ := hm x (List.mem_of_getElem? hx)
        obtain ⟨w, hw⟩ : ∃ w, σ[b]? = some w := by
          rcases h0 (2, b) List.mem_cons_self with z | z
          · cases z
          · exact z
        have e1 : cx_val (cx_pick σ mu) (2, a) = (v + 2147483648).toNat := by simp only [cx_val, cx_pick_s hx hv, Option.getD_some]
        have e2 : cx_val σ (2, b) = (w + 2147483648).toNat := by simp only [cx_val, hw, Option.getD_some]
        simp only [List.map_cons]
        rw [e1, e2]
        rcases Bool.or_eq_true_iff.mp h with g | g
        · split at g
          · rename_i p hp
            obtain ⟨g1, g2⟩ := Bool.and_eq_true_iff.mp g
            obtain ⟨g2, g3⟩ := Bool.and_eq_true_iff.mp g2
            have g1 := of_decide_eq_true g1
            have b1 := hi.2 _ _ _ hv hp
            have g2 := cx_ent_s hi hc 3 x b _ v w g2 hv hw
            exact Or.inl ⟨by omega, hlen t g3⟩
          · cases g
        · obtain ⟨g1, g2⟩ := Bool.and_eq_true_iff.mp g
          have g1 := cx_ent_s hi hc 3 x b _ v w g1 hv hw
          exact Or.inr ⟨by omega, ih (fun e he => h0 e (List.mem_cons_of_mem _ he)) g2⟩
      · cases h
    · cases h
/-! calls -/
theorem cx_cat_s : ∀ {A : List cx_V} {l : List Value}, cx_pure4 A = true → cx_L σ T A l → ez_cats l = cx_cat A := by
  intro A
  induction A with
  | nil => intro l _ h; cases l <;> simp_all [cx_L, ez_cats, cx_cat]
  | cons a A ih =>
    intro l hp h
    obtain ⟨v, t, rfl, g1, g2⟩ := cx_L_inv h
    simp only [cx_pure4, List.all_cons, Bool.and_eq_true] at hp
    obtain ⟨k, q⟩ := a
    have ht := ih (l := t) hp.2 g2
    have hk : k ≤ 3 := Nat.le_of_ble_eq_true hp.1
    simp only [ez_cats, cx_cat, ht]
    match k, hk with
    | 0, _ => obtain ⟨x, rfl, -⟩ := g1; rfl
    | 1, _ => obtain ⟨x, rfl, -⟩ := g1; rfl
    | 2, _ => obtain rfl := g1; rfl
    | 3, _ => obtain ⟨p, rfl, -⟩ := g1; rfl
theorem cx_lay_s : ∀ {A : List cx_V} {l : List Value}, cx_pure4 A = true → cx_L σ T A l → cx_L σ T (cx_lay A) (ez_lay l) := by
  intro A
  induction A with
  | nil => intro l _ h; cases l <;> simp_all [cx_L, ez_lay, cx_lay]
  | cons a A ih =>
    intro l hp h
    obtain ⟨v, t, rfl, g1, g2⟩ := cx_L_inv h
    simp only [cx_pure4, List.all_cons, Bool.and_eq_true] at hp
    obtain ⟨k, q⟩ := a
    have ht := ih (l := t) hp.2 g2
    have hk : k ≤ 3 := Nat.le_of_ble_eq_true hp.1
    match k, hk with
    | 0, _ => obtain ⟨x, rfl, g⟩ := g1; exact ⟨⟨x, rfl, g⟩, ht⟩
    | 1, _ => obtain ⟨x, rfl, g⟩ := g1; exact ⟨⟨x, rfl, g⟩, rfl, ht⟩
    | 2, _ => obtain rfl := g1; exact ⟨rfl, ht⟩
    | 3, _ => obtain ⟨p, rfl, g⟩ := g1; exact ⟨⟨p, rfl, g⟩, ht⟩
theorem cx_pure4_sub {A C : List cx_V} (h : cx_pure4 A = true) (hs : ∀ e ∈ C, e ∈ A) : cx_pure4 C = true := List.all_eq_true.mpr fun e he => List.all_eq_true.mp h e (hs e he)
theorem cx_meet_s : ∀ {s : List cx_Iv} {u : List Nat} {iv : List cx_Iv}, cx_iv σ iv → (∀ (j : Nat) (p : cx_Iv) (t : Nat), s[j]? = some p → u[j]? = some t → ∃ v, σ[t]? = some v ∧ p.1 ≤ v ∧ v ≤ p.2) →
    ∃ iv', cx_meet s u iv = some iv' ∧ cx_iv σ iv' := by
  intro s
  induction s with
  | nil => intro u iv h _; exact ⟨iv, by simp [cx_meet], h⟩
  | cons p s ih =>
    intro u iv h hb
    cases u with
    | nil => exact ⟨iv, by simp [cx_meet], h⟩
    | cons t u =>
      obtain ⟨v, v1, v2⟩ := hb 0 p t (by simp) (by simp)
      obtain ⟨r, r1, r2, -⟩ := cx_bnd_s (c := (iv, [])) (w := p) h cx_nil v1 v2
      simp only [cx_meet, r1]
      exact ih r2 fun j p' t' h1 h2 => hb (j + 1) p' t' (by simpa using h1) (by simpa using h2)
theorem cx_map1_s {f : Nat → Nat} {υ τ : List Int} (hf : ∀ (j : Nat) (v : Int), υ[j]? = some v → τ[f j]? = some v) {a : cx_V} {v : Value} (h : cx_v υ T a v) : cx_v τ T (cx_map1 f a) v := by
  obtain ⟨k, q⟩ := a
  match k with
  | 0 => obtain ⟨x, h1, h2⟩ := h; exact ⟨x, h1, hf _ _ h2⟩
  | 1 => obtain ⟨x, h1, h2⟩ := h; exact ⟨x, h1, hf _ _ h2⟩
  | 2 => exact h
  | 3 => exact h
  | 4 => exact h
  | 5 => trivial
  | 6 => exact h
  | n + 7 => trivial
theorem cx_mapL_s {f : Nat → Nat} {υ τ : List Int} (hf : ∀ (j : Nat) (v : Int), υ[j]? = some v → τ[f j]? = some v) : ∀ {A : List cx_V} {l : List Value}, cx_L υ T A l → cx_L τ T (A.map (cx_map1 f)) l := by
  intro A
  induction A with
  | nil => intro l h; cases l <;> simp_all [cx_L]
  | cons a A ih =>
    intro l h
    obtain ⟨v, t, rfl, g1, g2⟩ := cx_L_inv h
    exact ⟨cx_map1_s hf g1, ih g2⟩
/-- behind a call: what its end says, and what stood before it -/
theorem cx_back_s {I' : Nat → Nat → Int32} {J' : Nat → Nat → Int64} {T' : List ez_C} {mu : List Nat} {ne : Nat} {md : List (Nat × Nat)} {E : cx_S} {υ : List Int} {ret : List Value} {rest : List cx_V} {rs : List Value}
    (h : cx_ok σ (ls, st, iv, cs, fs, cm) l s I T) (hrs : cx_L σ T rest rs) (hml : mu.length = ne) (hmu : ∀ t ∈ mu, ∃ v, σ[t]? = some v) (hext : cx_ext (cx_pick σ mu) υ)
    (hT : cx_leT T T') (hfr : cx_fr md I J I' J') (hE : cx_ok υ E [] ret I' T') :
    ∃ S2 τ, cx_back ne mu md (ls, st, iv, cs, fs, cm) rest E = some S2 ∧ cx_ext σ τ ∧ cx_ok τ S2 l (ret ++ rs) I' T' := by
  obtain ⟨els, est, eiv, ecs, efs, ecm⟩ := E
  obtain ⟨e1, e2, e3, e4, e5, e6⟩ := hE
  have hpl : (cx_pick σ mu).length = ne := by simp [cx_pick, hml]
  have hul : ne ≤ υ.length := by
    apply Nat.le_of_not_lt
    intro hlt
    have h1 : υ.length < (cx_pick σ mu).length := by omega
    have h2 := hext υ.length _ (List.getElem?_eq_getElem h1)
    simp at h2
  have e3l : υ.length = eiv.length := e3.1
  have hlook : ∀ (j : Nat) (t : Nat), mu[j]? = some t → ∃ v, σ[t]? = some v ∧ υ[j]? = some v := by
    intro j t hj
    obtain ⟨v, hv⟩ := hmu t (List.mem_of_getElem? hj)
    exact ⟨v, hv, hext j v (cx_pick_s hj hv)⟩
  obtain ⟨iv', m1, m2⟩ := cx_meet_s (s := eiv.take ne) (u := mu.take ne) h.2.2.1 (fun j p t hp ht => by
    have hj : j < ne := by
      have := (List.getElem?_eq_some_iff.mp ht).1
      simp at this
      omega
    rw [List.getElem?_take_of_lt hj] at hp ht
    obtain ⟨v, hv, hv2⟩ := hlook j t ht
    have hb := e3.2 j v p hv2 hp
    exact ⟨v, hv, hb⟩)
  have phi : ∀ (j : Nat) (v : Int), υ[j]? = some v → (σ ++ υ.drop ne)[cx_phi ne iv.length mu j]? = some v := by
    intro j v hj
    unfold cx_phi
    cases hb : Nat.blt j ne with
    | true =>
      have hlt : j < ne := Nat.le_of_ble_eq_true hb
      have hlt2 : j < mu.length := by omega
      obtain ⟨w, w1, w2⟩ := hlook j _ (List.getElem?_eq_getElem hlt2)
      rw [hj] at w2
      injection w2 with w2
      subst w2
      simp only [cond_true, List.getElem?_eq_getElem hlt2, Option.getD_some]
      exact cx_ext_app σ _ _ _ w1
    | false =>
      have hge : ne ≤ j := by
        apply Nat.le_of_not_lt
        intro hlt
        have : Nat.blt j ne = true := Nat.ble_eq_true_of_le hlt
        rw [hb] at this
        cases this
      simp only [cond_false]
      rw [← h.2.2.1.1, List.getElem?_append_right (by omega), List.getElem?_drop, show ne + (σ.length + (j - ne) - σ.length) = j by omega]
      exact hj
  have hx := cx_ext_app σ (υ.drop ne)
  have hiv : cx_iv (σ ++ υ.drop ne) (iv' ++ eiv.drop ne) := by
    refine ⟨by simp only [List.length_append, List.length_drop, m2.1, e3l], fun j v p h1 h2 => ?_⟩
    by_cases hj : j < σ.length
    · rw [List.getElem?_append_left hj] at h1
      rw [List.getElem?_append_left (by rw [← m2.1]; exact hj)] at h2
      exact m2.2 j v p h1 h2
    · rw [List.getElem?_append_right (by omega), List.getElem?_drop] at h1
      rw [List.getElem?_append_right (by rw [← m2.1]; omega), List.getElem?_drop, ← m2.1] at h2
      exact e3.2 _ v p h1 h2
  have hcs : cx_cs (σ ++ υ.drop ne) (ecs.map fun e => (cx_phi ne iv.length mu e.1, cx_phi ne iv.length mu e.2.1, e.2.2)) := by
    intro e he
    obtain ⟨f, hf, rfl⟩ := List.mem_map.mp he
    obtain ⟨x, y, f1, f2, f3⟩ := e4 f hf
    exact ⟨x, y, phi _ _ f1, phi _ _ f2, f3⟩
  obtain ⟨q, q1, q2, q3⟩ := cx_leqs_s (c := (iv' ++ eiv.drop ne, cs)) hiv (cx_cs_up hx h.2.2.2.1) hcs
  simp only [cx_back, m1, q1]
  refine ⟨_, σ ++ υ.drop ne, rfl, hx, cx_L_up hx hT h.1, cx_L_app (cx_mapL_s phi e2) (cx_L_up hx hT hrs), q2, q3, ?_, cx_cm_up hx h.2.2.2.2.2⟩
  intro e he
  rcases List.mem_append.mp he with he | he
  · obtain ⟨f, hf, rfl⟩ := List.mem_map.mp he
    exact phi _ _ (e5 f hf)
  · obtain ⟨f1, f2⟩ := List.mem_filter.mp he
    have f3 := (hfr e.1 e.2.1 (by
      cases hz : cx_may md e.1 e.2.1 with
      | false => rfl
      | true => rw [hz] at f2; simp at f2)).1
    rw [f3]
    exact hx _ _ (h.2.2.2.2.1 e f1)
end CXU
