/-! Branches over signs; when a state of signs says no more than another does. -/
def cx_leq (x y : Nat) (d : Int) : List cx_Iv × List cx_D3 → Option (List cx_Iv × List cx_D3)
  | (iv, cs) => match iv[x]?, iv[y]? with
    | some p, some q => bif decide (p.1 ≤ min p.2 (q.2 + d)) && (decide (max q.1 (p.1 - d) ≤ q.2) && !cx_ent 1 iv cs y x (-d - 1)) then some ((iv.set x (p.1, min p.2 (q.2 + d))).set y (bif Nat.beq x y then (p.1, min p.2 (q.2 + d)) else (max q.1 (p.1 - d), q.2)), (x, y, d) :: cs) else none
    | _, _ => none
def cx_bnd (x : Nat) (w : cx_Iv) : List cx_Iv × List cx_D3 → Option (List cx_Iv × List cx_D3)
  | (iv, cs) => match iv[x]? with
    | some p => bif decide (max p.1 w.1 ≤ min p.2 w.2) then some (iv.set x (max p.1 w.1, min p.2 w.2), cs) else none
    | none => none
def cx_big : Int := 10000000000000000000
/-- x is not the number c -/
def cx_neq (x : Nat) (c : Int) : List cx_Iv × List cx_D3 → Option (List cx_Iv × List cx_D3)
  | (iv, cs) => match iv[x]? with
    | some p => bif decide (p.1 = c) then cx_bnd x (c + 1, p.2) (iv, cs) else bif decide (p.2 = c) then cx_bnd x (p.1, c - 1) (iv, cs) else some (iv, cs)
    | none => none
def cx_ne2 (x y : Nat) : List cx_Iv × List cx_D3 → Option (List cx_Iv × List cx_D3)
  | (iv, cs) => match iv[x]?, iv[y]? with
    | some p, some q => bif decide (q.1 = q.2) then cx_neq x q.1 (iv, cs) else bif decide (p.1 = p.2) then cx_neq y p.1 (iv, cs) else some (iv, cs)
    | _, _ => none
def cx_icmp (o : ClassFile.Cond) (x y : Nat) (c : List cx_Iv × List cx_D3) : Option (List cx_Iv × List cx_D3) := match o with
  | .eq => match cx_leq x y 0 c with
    | some c' => cx_leq y x 0 c'
    | none => none
  | .ne => cx_ne2 x y c
  | .lt => cx_leq x y (-1) c
  | .ge => cx_leq y x 0 c
  | .gt => cx_leq y x (-1) c
  | .le => cx_leq x y 0 c
def cx_icz (o : ClassFile.Cond) (x : Nat) (c : List cx_Iv × List cx_D3) : Option (List cx_Iv × List cx_D3) := match o with
  | .eq => cx_bnd x (0, 0) c
  | .ne => cx_neq x 0 c
  | .lt => cx_bnd x (-cx_big, -1) c
  | .ge => cx_bnd x (0, cx_big) c
  | .gt => cx_bnd x (1, cx_big) c
  | .le => cx_bnd x (-cx_big, 0) c
def cx_neg (o : ClassFile.Cond) : ClassFile.Cond := match o with
  | .eq => .ne
  | .ne => .eq
  | .lt => .ge
  | .ge => .lt
  | .gt => .le
  | .le => .gt
def cx_holds (o : ClassFile.Cond) (u v : Int) : Prop := match o with
  | .eq => u = v
  | .ne => ¬ u = v
  | .lt => u < v
  | .ge => v ≤ u
  | .gt => v < u
  | .le => u ≤ v
section CXR
variable {σ : List Int} {c : List cx_Iv × List cx_D3} {x y : Nat} {u v d : Int}
theorem cx_iv_set {iv : List cx_Iv} (h : cx_iv σ iv) (hx : σ[x]? = some u) {p : cx_Iv} (hp : p.1 ≤ u ∧ u ≤ p.2) : cx_iv σ (iv.set x p) := by
  refine ⟨by simp [h.1], fun s w q h1 h2 => ?_⟩
  rw [List.getElem?_set] at h2
  split at h2
  · rename_i hs
    subst hs
    split at h2
    · injection h2 with h2
      rw [← h2]
      rw [hx] at h1
      injection h1 with h1
      rw [← h1]
      exact hp
    · cases h2
  · exact h.2 s w q h1 h2
theorem cx_leq_s (h : cx_iv σ c.1) (hc : cx_cs σ c.2) (hx : σ[x]? = some u) (hy : σ[y]? = some v) (hd : u ≤ v + d) : ∃ r, cx_leq x y d c = some r ∧ cx_iv σ r.1 ∧ cx_cs σ r.2 := by
  obtain ⟨iv, cs⟩ := c
  obtain ⟨p, hp, p1, p2⟩ := cx_iv_get h hx
  obtain ⟨q, hq, q1, q2⟩ := cx_iv_get h hy
  have e1 : decide (p.1 ≤ min p.2 (q.2 + d)) = true := decide_eq_true (by omega)
  have e2 : decide (max q.1 (p.1 - d) ≤ q.2) = true := decide_eq_true (by omega)
  have e3 : cx_ent 1 iv cs y x (-d - 1) = false := by
    cases hz : cx_ent 1 iv cs y x (-d - 1) with
    | false => rfl
    | true =>
      have := cx_ent_s h hc 1 y x _ v u hz hy hx
      omega
  simp only [cx_leq, hp, hq, e1, e2, e3, Bool.not_false, Bool.and_self, cond_true]
  refine ⟨_, rfl, ?_, ?_⟩
  · refine cx_iv_set (cx_iv_set h hx (by simp only; omega)) hy ?_
    cases hb : Nat.beq x y with
    | true =>
      obtain rfl : x = y := Nat.eq_of_beq_eq_true hb
      rw [hx] at hy
      injection hy with hy
      simp only [cond_true]
      omega
    | false => simp only [cond_false]; omega
  · intro e he
    rcases List.mem_cons.mp he with rfl | he
    · exact ⟨u, v, hx, hy, hd⟩
    · exact hc e he
theorem cx_bnd_s {w : cx_Iv} (h : cx_iv σ c.1) (hc : cx_cs σ c.2) (hx : σ[x]? = some u) (hw : w.1 ≤ u ∧ u ≤ w.2) : ∃ r, cx_bnd x w c = some r ∧ cx_iv σ r.1 ∧ cx_cs σ r.2 := by
  obtain ⟨iv, cs⟩ := c
  obtain ⟨p, hp, p1, p2⟩ := cx_iv_get h hx
  have e1 : decide (max p.1 w.1 ≤ min p.2 w.2) = true := decide_eq_true (by omega)
  simp only [cx_bnd, hp, e1, cond_true]
  exact ⟨_, rfl, cx_iv_set h hx (by simp only; omega), hc⟩
theorem cx_neq_s {k : Int} (h : cx_iv σ c.1) (hc : cx_cs σ c.2) (hx : σ[x]? = some u) (hk : ¬ u = k) : ∃ r, cx_neq x k c = some r ∧ cx_iv σ r.1 ∧ cx_cs σ r.2 := by
  obtain ⟨iv, cs⟩ := c
  obtain ⟨p, hp, p1, p2⟩ := cx_iv_get h hx
  simp only [cx_neq, hp]
  cases h1 : decide (p.1 = k) with
  | true =>
    have := of_decide_eq_true h1
    exact cx_bnd_s h hc hx (by simp only; omega)
  | false =>
    cases h2 : decide (p.2 = k) with
    | true =>
      have := of_decide_eq_true h2
      exact cx_bnd_s h hc hx (by simp only; omega)
    | false => exact ⟨_, rfl, h, hc⟩
theorem cx_ne2_s (h : cx_iv σ c.1) (hc : cx_cs σ c.2) (hx : σ[x]? = some u) (hy : σ[y]? = some v) (hk : ¬ u = v) : ∃ r, cx_ne2 x y c = some r ∧ cx_iv σ r.1 ∧ cx_cs σ r.2 := by
  obtain ⟨iv, cs⟩ := c
  obtain ⟨p, hp, p1, p2⟩ := cx_iv_get h hx
  obtain ⟨q, hq, q1, q2⟩ := cx_iv_get h hy
  simp only [cx_ne2, hp, hq]
  cases h1 : decide (q.1 = q.2) with
  | true =>
    have := of_decide_eq_true h1
    exact cx_neq_s h hc hx (by omega)
  | false =>
    cases h2 : decide (p.1 = p.2) with
    | true =>
      have := of_decide_eq_true h2
      exact cx_neq_s h hc hy (by omega)
    | false => exact ⟨_, rfl, h, hc⟩
def cx_leqs : List cx_D3 → List cx_Iv × List cx_D3 → Option (List cx_Iv × List cx_D3)
  | [], c => some c
  | e :: t, c => match cx_leq e.1 e.2.1 e.2.2 c with
    | some c' => cx_leqs t c'
    | none => none
theorem cx_leqs_s : ∀ {L : List cx_D3} {c : List cx_Iv × List cx_D3}, cx_iv σ c.1 → cx_cs σ c.2 → cx_cs σ L → ∃ r, cx_leqs L c = some r ∧ cx_iv σ r.1 ∧ cx_cs σ r.2 := by
  intro L
  induction L with
  | nil => intro c h hc _; exact ⟨c, rfl, h, hc⟩
  | cons e t ih =>
    intro c h hc hL
    obtain ⟨x, y, h1, h2, h3⟩ := hL e List.mem_cons_self
    obtain ⟨r, r1, r2, r3⟩ := cx_leq_s (c := c) h hc h1 h2 h3
    simp only [cx_leqs, r1]
    exact ih r2 r3 fun e he => hL e (List.mem_cons_of_mem _ he)
theorem cx_icmp_s {o : ClassFile.Cond} (h : cx_iv σ c.1) (hc : cx_cs σ c.2) (hx : σ[x]? = some u) (hy : σ[y]? = some v) (ho : cx_holds o u v) : ∃ r, cx_icmp o x y c = some r ∧ cx_iv σ r.1 ∧ cx_cs σ r.2 := by
  cases o with
  | eq =>
    have ho : u = v := ho
    obtain ⟨r, h1, h2, h3⟩ := cx_leq_s (d := 0) h hc hx hy (by omega)
    simp only [cx_icmp, h1]
    exact cx_leq_s h2 h3 hy hx (by omega)
  | ne => exact cx_ne2_s h hc hx hy ho
  | lt => have ho : u < v := ho; exact cx_leq_s h hc hx hy (by omega)
  | ge => have ho : v ≤ u := ho; exact cx_leq_s h hc hy hx (by omega)
  | gt => have ho : v < u := ho; exact cx_leq_s h hc hy hx (by omega)
  | le => have ho : u ≤ v := ho; exact cx_leq_s h hc hx hy (by omega)
theorem cx_icz_s {o : ClassFile.Cond} (h : cx_iv σ c.1) (hc : cx_cs σ c.2) (hx : σ[x]? = some u) (h1 : -cx_big ≤ u) (h2 : u ≤ cx_big) (ho : cx_holds o u 0) : ∃ r, cx_icz o x c = some r ∧ cx_iv σ r.1 ∧ cx_cs σ r.2 := by
  cases o with
  | eq => have ho : u = 0 := ho; exact cx_bnd_s h hc hx (by simp only; omega)
  | ne => exact cx_neq_s h hc hx ho
  | lt => have ho : u < 0 := ho; exact cx_bnd_s h hc hx (by simp only; omega)
  | ge => have ho : 0 ≤ u := ho; exact cx_bnd_s h hc hx (by simp only; omega)
  | gt => have ho : 0 < u := ho; exact cx_bnd_s h hc hx (by simp only; omega)
  | le => have ho : u ≤ 0 := ho; exact cx_bnd_s h hc hx (by simp only; omega)
theorem cx_neg_s {o : ClassFile.Cond} (h : ¬ cx_holds o u v) : cx_holds (cx_neg o) u v := by
  cases o <;> simp only [cx_holds, cx_neg] at h ⊢ <;> omega
end CXR
/-! A state of signs that says no more: its signs, by the list mu, are signs of the other. -/
def cx_mus (ne : Nat) : List cx_V → List cx_V → List Nat
  | (k, z) :: s, (_, t) :: u => bif Nat.ble k 1 && Nat.ble ne z then t :: cx_mus ne s u else cx_mus ne s u
  | _, _ => []
def cx_muf (ne : Nat) (fs : List (Nat × Nat × Nat)) : List (Nat × Nat × Nat) → List Nat
  | [] => []
  | e :: t => match fs.find? (fun f => Nat.beq f.1 e.1 && Nat.beq f.2.1 e.2.1) with
    | some f => bif Nat.ble ne e.2.2 then f.2.2 :: cx_muf ne fs t else cx_muf ne fs t
    | none => cx_muf ne fs t
def cx_sub1 (mu : List Nat) : cx_V → cx_V → Bool
  | (0, s), (0, t) => decide (mu[s]? = some t)
  | (1, s), (1, t) => decide (mu[s]? = some t)
  | (2, p), (2, q) => Nat.beq p q
  | (3, q), (3, r) => Nat.beq q r
  | (3, q), (2, p) => match cx_Ds[p]? with
    | some (r, n, _) => Nat.beq r q && (Nat.blt q 2 && Nat.beq n 0)
    | none => false
  | (4, _), (4, _) => true
  | (6, _), (6, _) => true
  | (5, _), _ => true
  | _, _ => false
def cx_sub (mu : List Nat) : List cx_V → List cx_V → Bool
  | [], [] => true
  | a :: s, b :: u => cx_sub1 mu a b && cx_sub mu s u
  | _, _ => false
def cx_subI (iv : List cx_Iv) : List cx_Iv → List Nat → Bool
  | [], [] => true
  | p :: s, t :: u => (match iv[t]? with
    | some q => cx_inn q p
    | none => false) && cx_subI iv s u
  | _, _ => false
def cx_aug (B : Nat → Nat → cx_Iv) : List (Nat × Nat × Nat) → cx_S → cx_S
  | [], S => S
  | e :: t, (ls, st, iv, cs, fs, cm) => cx_aug B t (match fs.find? (fun f => Nat.beq f.1 e.1 && Nat.beq f.2.1 e.2.1) with
    | some _ => (ls, st, iv, cs, fs, cm)
    | none => (ls, st, iv ++ [B e.1 e.2.1], cs, (e.1, e.2.1, iv.length) :: fs, cm))
def cx_opt {α : Type} (b : Bool) (x : α) : Option α := bif b then some x else none
theorem cx_opt_s {α : Type} {b : Bool} {x y : α} (h : cx_opt b x = some y) : b = true ∧ x = y := by
  cases b with
  | true => exact ⟨rfl, Option.some.inj h⟩
  | false => cases h
def cx_imb (mu : List Nat) (S A : cx_S) : Bool := match S, A with
  | (ls, st, iv, cs, fs, _), (ls2, st2, iv2, cs2, fs2, cm2) => cx_sub mu ls2 ls && (cx_sub mu st2 st && (cx_subI iv iv2 mu && (cs2.all (fun e => match mu[e.1]?, mu[e.2.1]? with
      | some a, some b => cx_ent 3 iv cs a b e.2.2
      | _, _ => false) && (fs2.all (fun e => fs.any fun f => Nat.beq f.1 e.1 && (Nat.beq f.2.1 e.2.1 && decide (mu[e.2.2]? = some f.2.2))) && cm2.isEmpty))))
def cx_im (ne : Nat) (S A : cx_S) : List Nat := List.range ne ++ (cx_mus ne A.1 S.1 ++ (cx_mus ne A.2.1 S.2.1 ++ cx_muf ne S.2.2.2.2.1 A.2.2.2.2.1))
/-- the list mu by which S says no less than A; the first ne signs are the same -/
def cx_imp (ne : Nat) (S A : cx_S) : Option (List Nat) := cx_opt (cx_imb (cx_im ne S A) S A) (cx_im ne S A)
def cx_pick (σ : List Int) (mu : List Nat) : List Int := mu.map fun t => (σ[t]?).getD 0
section CXI
variable {σ : List Int} {T : List ez_C} {I : Nat → Nat → Int32} {mu : List Nat} {B : Nat → Nat → cx_Iv} {l s : List Value}
theorem cx_pick_s {j t : Nat} {v : Int} (h : mu[j]? = some t) (hv : σ[t]? = some v) : (cx_pick σ mu)[j]? = some v := by
  simp [cx_pick, h, hv]
theorem cx_sub1_s {a b : cx_V} {v : Value} (h : cx_sub1 mu a b = true) (hv : cx_v σ T b v) : cx_v (cx_pick σ mu) T a v := by
  unfold cx_sub1 at h
  split at h
  · obtain ⟨x, h1, h2⟩ := hv
    exact ⟨x, h1, cx_pick_s (of_decide_eq_true h) h2⟩
  · obtain ⟨x, h1, h2⟩ := hv
    exact ⟨x, h1, cx_pick_s (of_decide_eq_true h) h2⟩
  · obtain rfl := Nat.eq_of_beq_eq_true h
    exact hv
  · obtain rfl := Nat.eq_of_beq_eq_true h
    exact hv
  · rename_i q p
    split at h
    · rename_i r n t hd
      obtain ⟨h1, h2⟩ := Bool.and_eq_true_iff.mp h
      obtain ⟨h4, h3⟩ := Bool.and_eq_true_iff.mp h2
      obtain rfl := Nat.eq_of_beq_eq_true h1
      obtain rfl := Nat.eq_of_beq_eq_true h3
      exact ⟨p, hv, 0, Or.inl ⟨Nat.le_of_ble_eq_true h4, rfl, t, hd⟩⟩
    · cases h
  · exact hv
  · exact hv
  · trivial
  · cases h
theorem cx_sub_s : ∀ {A C : List cx_V} {l : List Value}, cx_sub mu A C = true → cx_L σ T C l → cx_L (cx_pick σ mu) T A l := by
  intro A
  induction A with
  | nil =>
    intro C l h hl
    cases C with
    | nil => cases l <;> simp_all [cx_L]
    | cons c C => simp [cx_sub] at h
  | cons a A ih =>
    intro C l h hl
    cases C with
    | nil => simp [cx_sub] at h
    | cons c C =>
      obtain ⟨h1, h2⟩ := Bool.and_eq_true_iff.mp h
      obtain ⟨v, t, rfl, g1, g2⟩ := cx_L_inv hl
      exact ⟨cx_sub1_s h1 g1, ih h2 g2⟩
theorem cx_subI_s {iv : List cx_Iv} (hi : cx_iv σ iv) : ∀ {iv2 : List cx_Iv} {mu : List Nat}, cx_subI iv iv2 mu = true → cx_iv (cx_pick σ mu) iv2 ∧ ∀ t ∈ mu, ∃ v, σ[t]? = some v := by
  intro iv2
  induction iv2 with
  | nil =>
    intro mu h
    cases mu with
    | nil => exact ⟨⟨rfl, fun s v p h1 => by simp [cx_pick] at h1⟩, fun t ht => by cases ht⟩
    | cons t u => simp [cx_subI] at h
  | cons p iv2 ih =>
    intro mu h
    cases mu with
    | nil => simp [cx_subI] at h
    | cons t u =>
      obtain ⟨h1, h2⟩ := Bool.and_eq_true_iff.mp h
      obtain ⟨⟨e1, e2⟩, e3⟩ := ih h2
      split at h1
      · rename_i q hq
        have hl : t < σ.length := by rw [hi.1]; exact (List.getElem?_eq_some_iff.mp hq).1
        have hv : σ[t]? = some σ[t] := List.getElem?_eq_getElem hl
        have hb := hi.2 _ _ _ hv hq
        have hb2 := cx_inn_s h1 hb.1 hb.2
        refine ⟨⟨by simp only [cx_pick, List.map_cons, List.length_cons] at e1 ⊢; rw [e1], fun s v p' g1 g2 => ?_⟩, fun t' ht => ?_⟩
        · cases s with
          | zero =>
            simp only [cx_pick, List.map_cons, hv, List.getElem?_cons_zero, Option.getD_some, Option.some.injEq] at g1
            simp only [List.getElem?_cons_zero, Option.some.injEq] at g2
            rw [← g1, ← g2]
            exact hb2
          | succ s =>
            simp only [cx_pick, List.map_cons, List.getElem?_cons_succ] at g1 g2
            exact e2 s v p' g1 g2
        · rcases List.mem_cons.mp ht with rfl | ht
          · exact ⟨_, hv⟩
          · exact e3 t' ht
      · cases h1
theorem cx_aug_s (hB : cx_hB B I) : ∀ (F : List (Nat × Nat × Nat)) {σ : List Int} {S : cx_S}, cx_ok σ S l s I T → ∃ τ, cx_ext σ τ ∧ cx_ok τ (cx_aug B F S) l s I T := by
  intro F
  induction F with
  | nil => intro σ S h; exact ⟨σ, cx_ext_r σ, h⟩
  | cons e t ih =>
    intro σ S h
    obtain ⟨A, As, iv, cs, fs, cm⟩ := S
    simp only [cx_aug]
    split
    · exact ih h
    · have top := cx_top h.2.2.1 (I e.1 e.2.1).toInt
      have h3 := cx_new (nc := []) h (v := (I e.1 e.2.1).toInt) (p := B e.1 e.2.1) (hB e.1 e.2.1) cx_nil
      obtain ⟨τ, g1, g2⟩ := ih (σ := σ ++ [(I e.1 e.2.1).toInt]) (S := (A, As, iv ++ [B e.1 e.2.1], cs, (e.1, e.2.1, iv.length) :: fs, cm))
        ⟨h3.1, h3.2.1, h3.2.2.1, h3.2.2.2.1, fun f hf => by
          rcases List.mem_cons.mp hf with rfl | hf
          · exact top
          · exact h3.2.2.2.2.1 f hf, h3.2.2.2.2.2⟩
      exact ⟨τ, cx_ext_t (cx_ext_app σ _) g1, g2⟩
theorem cx_imp_s {ne : Nat} {S A : cx_S} (h : cx_ok σ S l s I T) (hc : cx_imp ne S A = some mu) :
    cx_ok (cx_pick σ mu) A l s I T ∧ (∀ j, j < ne → mu[j]? = some j) ∧ (∀ t ∈ mu, ∃ v, σ[t]? = some v) := by
  obtain ⟨hz, hc⟩ := cx_opt_s hc
  rw [hc] at hz
  obtain ⟨ls, st, iv, cs, fs, cm⟩ := S
  obtain ⟨ls2, st2, iv2, cs2, fs2, cm2⟩ := A
  simp only [cx_imb, Bool.and_eq_true_iff] at hz
  obtain ⟨z1, z2, z3, z4, z5, z6⟩ := hz
  obtain ⟨i1, i2⟩ := cx_subI_s h.2.2.1 z3
  refine ⟨⟨cx_sub_s z1 h.1, cx_sub_s z2 h.2.1, i1, ?_, ?_, ?_⟩, ?_, i2⟩
  · intro e he
    have z := List.all_eq_true.mp z4 e he
    split at z
    · rename_i a b ha hb
      obtain ⟨x, hx⟩ := i2 a (List.mem_of_getElem? ha)
      obtain ⟨y, hy⟩ := i2 b (List.mem_of_getElem? hb)
      exact ⟨x, y, cx_pick_s ha hx, cx_pick_s hb hy, cx_ent_s h.2.2.1 h.2.2.2.1 3 a b _ x y z hx hy⟩
    · cases z
  · intro e he
    obtain ⟨f, hf, z⟩ := List.any_eq_true.mp (List.all_eq_true.mp z5 e he)
    obtain ⟨y1, y2⟩ := Bool.and_eq_true_iff.mp z
    obtain ⟨y2, y3⟩ := Bool.and_eq_true_iff.mp y2
    have y1 := Nat.eq_of_beq_eq_true y1
    have y2 := Nat.eq_of_beq_eq_true y2
    have y3 := of_decide_eq_true y3
    have g := h.2.2.2.2.1 f hf
    rw [y1, y2] at g
    exact cx_pick_s y3 g
  · cases cm2 with
    | nil => intro e he; cases he
    | cons a b => simp at z6
  · intro j hj
    rw [← hc]
    unfold cx_im
    rw [List.getElem?_append_left (by simpa using hj)]
    simp [hj]
end CXI
