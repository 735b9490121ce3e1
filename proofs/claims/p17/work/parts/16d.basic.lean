/-! The basic instructions over signs. -/
abbrev cx_G : Type := cx_Iv → cx_Iv → Nat → Nat → Nat → cx_Iv × List cx_D3
def cx_fit (p q : cx_Iv) : Bool := cx_inn p q && decide (p.1 ≤ p.2)
def cx_gF (w : cx_Iv) : cx_G := fun _ _ _ _ _ => (w, [])
def cx_eqd (n x : Nat) (c : Int) (t : Bool) : List cx_D3 := bif t then [(n, x, c), (x, n, -c)] else []
def cx_gAdd (w : cx_Iv) : cx_G := fun p q x y n => bif cx_inn (p.1 + q.1, p.2 + q.2) w then ((p.1 + q.1, p.2 + q.2), cx_eqd n x q.1 (decide (q.1 = q.2)) ++ cx_eqd n y p.1 (decide (p.1 = p.2))) else (w, [])
def cx_gSub (w : cx_Iv) : cx_G := fun p q x _ n => bif cx_inn (p.1 - q.2, p.2 - q.1) w then ((p.1 - q.2, p.2 - q.1), cx_eqd n x (-q.1) (decide (q.1 = q.2))) else (w, [])
def cx_gMul (w : cx_Iv) : cx_G := fun p q _ _ _ => bif decide (0 ≤ p.1) && (decide (0 ≤ q.1) && cx_inn (p.1 * q.1, p.2 * q.2) w) then ((p.1 * q.1, p.2 * q.2), []) else (w, [])
def cx_gAnd (w : cx_Iv) : cx_G := fun p q _ _ _ => bif decide (0 ≤ q.1) then ((0, q.2), []) else bif decide (0 ≤ p.1) then ((0, p.2), []) else (w, [])
def cx_gBit (w : cx_Iv) : cx_G := fun p q _ _ _ => bif cx_inn p (0, 1) && cx_inn q (0, 1) then ((0, 1), []) else (w, [])
def cx_g32 (f : Int32 → Int32 → Int32) (g : cx_G) : Prop := ∀ (p q : cx_Iv) (x y n : Nat) (u v : Int32) (σ : List Int), p.1 ≤ u.toInt → u.toInt ≤ p.2 → q.1 ≤ v.toInt → v.toInt ≤ q.2 → σ[x]? = some u.toInt → σ[y]? = some v.toInt → σ[n]? = some (f u v).toInt →
  ((g p q x y n).1.1 ≤ (f u v).toInt ∧ (f u v).toInt ≤ (g p q x y n).1.2) ∧ cx_cs σ (g p q x y n).2
def cx_g64 (f : Int64 → Int64 → Int64) (g : cx_G) : Prop := ∀ (p q : cx_Iv) (x y n : Nat) (u v : Int64) (σ : List Int), p.1 ≤ u.toInt → u.toInt ≤ p.2 → q.1 ≤ v.toInt → v.toInt ≤ q.2 → σ[x]? = some u.toInt → σ[y]? = some v.toInt → σ[n]? = some (f u v).toInt →
  ((g p q x y n).1.1 ≤ (f u v).toInt ∧ (f u v).toInt ≤ (g p q x y n).1.2) ∧ cx_cs σ (g p q x y n).2
theorem cx_gF_s (f : Int32 → Int32 → Int32) : cx_g32 f (cx_gF cx_i32) := fun _ _ _ _ _ _ _ _ _ _ _ _ _ _ _ => ⟨cx_full32 _, cx_nil⟩
theorem cx_gF_l (f : Int64 → Int64 → Int64) : cx_g64 f (cx_gF cx_i64) := fun _ _ _ _ _ _ _ _ _ _ _ _ _ _ _ => ⟨cx_full64 _, cx_nil⟩
theorem cx_eqd_s {σ : List Int} {n x : Nat} {c u v : Int} {t : Bool} (h1 : σ[n]? = some u) (h2 : σ[x]? = some v) (h : t = true → u = v + c) : cx_cs σ (cx_eqd n x c t) := by
  cases t with
  | false => exact cx_nil
  | true =>
    have e := h rfl
    intro z hz
    simp only [cx_eqd, cond_true, List.mem_cons, List.not_mem_nil, or_false] at hz
    rcases hz with rfl | rfl
    · exact ⟨u, v, h1, h2, by simp only; omega⟩
    · exact ⟨v, u, h2, h1, by simp only; omega⟩
theorem cx_bm32 {z : Int} (h : cx_i32.1 ≤ z ∧ z ≤ cx_i32.2) : z.bmod (2 ^ 32) = z := by
  simp only [cx_i32] at h
  refine Int.bmod_eq_of_le ?_ ?_ <;> omega
theorem cx_bm64 {z : Int} (h : cx_i64.1 ≤ z ∧ z ≤ cx_i64.2) : z.bmod (2 ^ 64) = z := by
  simp only [cx_i64] at h
  refine Int.bmod_eq_of_le ?_ ?_ <;> omega
theorem cx_gAdd_s : cx_g32 (fun x y => x + y) (cx_gAdd cx_i32) := by
  intro p q x y n u v σ h1 h2 h3 h4 e1 e2 e3
  unfold cx_gAdd
  cases hb : cx_inn (p.1 + q.1, p.2 + q.2) cx_i32 with
  | false => exact ⟨cx_full32 _, cx_nil⟩
  | true =>
    simp only [cond_true]
    have hz := cx_inn_s hb (v := u.toInt + v.toInt) (by simp only; omega) (by simp only; omega)
    have ez : (u + v).toInt = u.toInt + v.toInt := by rw [Int32.toInt_add, cx_bm32 hz]
    rw [ez] at e3 ⊢
    refine ⟨by omega, cx_cs_app (cx_eqd_s e3 e1 fun h => ?_) (cx_eqd_s e3 e2 fun h => ?_)⟩
    · have := of_decide_eq_true h; omega
    · have := of_decide_eq_true h; omega
theorem cx_gAdd_l : cx_g64 (fun x y => x + y) (cx_gAdd cx_i64) := by
  intro p q x y n u v σ h1 h2 h3 h4 e1 e2 e3
  unfold cx_gAdd
  cases hb : cx_inn (p.1 + q.1, p.2 + q.2) cx_i64 with
  | false => exact ⟨cx_full64 _, cx_nil⟩
  | true =>
    simp only [cond_true]
    have hz := cx_inn_s hb (v := u.toInt + v.toInt) (by simp only; omega) (by simp only; omega)
    have ez : (u + v).toInt = u.toInt + v.toInt := by rw [Int64.toInt_add, cx_bm64 hz]
    rw [ez] at e3 ⊢
    refine ⟨by omega, cx_cs_app (cx_eqd_s e3 e1 fun h => ?_) (cx_eqd_s e3 e2 fun h => ?_)⟩
    · have := of_decide_eq_true h; omega
    · have := of_decide_eq_true h; omega
theorem cx_gSub_s : cx_g32 (fun x y => x - y) (cx_gSub cx_i32) := by
  intro p q x y n u v σ h1 h2 h3 h4 e1 e2 e3
  unfold cx_gSub
  cases hb : cx_inn (p.1 - q.2, p.2 - q.1) cx_i32 with
  | false => exact ⟨cx_full32 _, cx_nil⟩
  | true =>
    simp only [cond_true]
    have hz := cx_inn_s hb (v := u.toInt - v.toInt) (by simp only; omega) (by simp only; omega)
    have ez : (u - v).toInt = u.toInt - v.toInt := by rw [Int32.toInt_sub, cx_bm32 hz]
    rw [ez] at e3 ⊢
    refine ⟨by omega, cx_eqd_s e3 e1 fun h => ?_⟩
    have := of_decide_eq_true h; omega
theorem cx_gMul_s : cx_g32 (fun x y => x * y) (cx_gMul cx_i32) := by
  intro p q x y n u v σ h1 h2 h3 h4 e1 e2 e3
  unfold cx_gMul
  cases hb : decide (0 ≤ p.1) && (decide (0 ≤ q.1) && cx_inn (p.1 * q.1, p.2 * q.2) cx_i32) with
  | false => exact ⟨cx_full32 _, cx_nil⟩
  | true =>
    simp only [cond_true]
    obtain ⟨b1, b2⟩ := Bool.and_eq_true_iff.mp hb
    obtain ⟨b2, b3⟩ := Bool.and_eq_true_iff.mp b2
    have b1 := of_decide_eq_true b1
    have b2 := of_decide_eq_true b2
    have m1 : p.1 * q.1 ≤ u.toInt * v.toInt := Int.mul_le_mul h1 h3 b2 (by omega)
    have m2 : u.toInt * v.toInt ≤ p.2 * q.2 := Int.mul_le_mul h2 h4 (by omega) (by omega)
    have hz := cx_inn_s b3 (v := u.toInt * v.toInt) m1 m2
    have ez : (u * v).toInt = u.toInt * v.toInt := by rw [Int32.toInt_mul, cx_bm32 hz]
    rw [ez]
    exact ⟨⟨m1, m2⟩, cx_nil⟩
theorem cx_and32 (u v : Int32) (h : 0 ≤ v.toInt) : 0 ≤ (u &&& v).toInt ∧ (u &&& v).toInt ≤ v.toInt := by
  have e : (u &&& v).toInt = ((u.toBitVec &&& v.toBitVec).toInt) := rfl
  have hv : v.toInt = v.toBitVec.toInt := rfl
  have h1 := BitVec.toInt_eq_toNat_cond (u.toBitVec &&& v.toBitVec)
  have h2 := BitVec.toInt_eq_toNat_cond v.toBitVec
  have h3 : (u.toBitVec &&& v.toBitVec).toNat ≤ v.toBitVec.toNat := by rw [BitVec.toNat_and]; exact Nat.and_le_right
  have h4 := v.toBitVec.isLt
  rw [hv] at h
  rw [e, hv]
  split at h2 <;> split at h1 <;> omega
theorem cx_and64 (u v : Int64) (h : 0 ≤ v.toInt) : 0 ≤ (u &&& v).toInt ∧ (u &&& v).toInt ≤ v.toInt := by
  have e : (u &&& v).toInt = ((u.toBitVec &&& v.toBitVec).toInt) := rfl
  have hv : v.toInt = v.toBitVec.toInt := rfl
  have h1 := BitVec.toInt_eq_toNat_cond (u.toBitVec &&& v.toBitVec)
  have h2 := BitVec.toInt_eq_toNat_cond v.toBitVec
  have h3 : (u.toBitVec &&& v.toBitVec).toNat ≤ v.toBitVec.toNat := by rw [BitVec.toNat_and]; exact Nat.and_le_right
  have h4 := v.toBitVec.isLt
  rw [hv] at h
  rw [e, hv]
  split at h2 <;> split at h1 <;> omega
theorem cx_gAnd_s : cx_g32 (fun x y => x &&& y) (cx_gAnd cx_i32) := by
  intro p q x y n u v σ h1 h2 h3 h4 e1 e2 e3
  unfold cx_gAnd
  cases hb : decide (0 ≤ q.1) with
  | true =>
    have b := of_decide_eq_true hb
    have := cx_and32 u v (by omega)
    exact ⟨by simp only [cond_true]; omega, cx_nil⟩
  | false =>
    cases hb2 : decide (0 ≤ p.1) with
    | true =>
      have b := of_decide_eq_true hb2
      have := cx_and32 v u (by omega)
      have e : (u &&& v) = (v &&& u) := Int32.and_comm u v
      exact ⟨by simp only [cond_true, cond_false]; rw [e]; omega, cx_nil⟩
    | false => exact ⟨cx_full32 _, cx_nil⟩
theorem cx_gAnd_l : cx_g64 (fun x y => x &&& y) (cx_gAnd cx_i64) := by
  intro p q x y n u v σ h1 h2 h3 h4 e1 e2 e3
  unfold cx_gAnd
  cases hb : decide (0 ≤ q.1) with
  | true =>
    have b := of_decide_eq_true hb
    have := cx_and64 u v (by omega)
    exact ⟨by simp only [cond_true]; omega, cx_nil⟩
  | false =>
    cases hb2 : decide (0 ≤ p.1) with
    | true =>
      have b := of_decide_eq_true hb2
      have := cx_and64 v u (by omega)
      have e : (u &&& v) = (v &&& u) := Int64.and_comm u v
      exact ⟨by simp only [cond_true, cond_false]; rw [e]; omega, cx_nil⟩
    | false => exact ⟨cx_full64 _, cx_nil⟩
theorem cx_01 {u : Int32} (h : 0 ≤ u.toInt) (h2 : u.toInt ≤ 1) : u = 0 ∨ u = 1 := by
  rcases (show u.toInt = 0 ∨ u.toInt = 1 by omega) with e | e
  · exact Or.inl (Int32.toInt_inj.mp (by rw [e]; rfl))
  · exact Or.inr (Int32.toInt_inj.mp (by rw [e]; rfl))
theorem cx_gBit_s {f : Int32 → Int32 → Int32} (hf : ∀ u v : Int32, (u = 0 ∨ u = 1) → (v = 0 ∨ v = 1) → f u v = 0 ∨ f u v = 1) : cx_g32 f (cx_gBit cx_i32) := by
  intro p q x y n u v σ h1 h2 h3 h4 e1 e2 e3
  unfold cx_gBit
  cases hb : cx_inn p (0, 1) && cx_inn q (0, 1) with
  | false => exact ⟨cx_full32 _, cx_nil⟩
  | true =>
    obtain ⟨b1, b2⟩ := Bool.and_eq_true_iff.mp hb
    have c1 := cx_inn_s b1 h1 h2
    have c2 := cx_inn_s b2 h3 h4
    rcases hf u v (cx_01 c1.1 c1.2) (cx_01 c2.1 c2.2) with e | e
    · rw [e]; exact ⟨⟨by decide, by decide⟩, cx_nil⟩
    · rw [e]; exact ⟨⟨by decide, by decide⟩, cx_nil⟩
/-- a sign's bounds, with what the differences say -/
def cx_tgt (iv : List cx_Iv) (x : Nat) : List cx_D3 → cx_Iv → cx_Iv
  | [], p => p
  | e :: t, p => cx_tgt iv x t (bif Nat.beq e.1 x then (match iv[e.2.1]? with
    | some q => (p.1, min p.2 (q.2 + e.2.2))
    | none => p) else bif Nat.beq e.2.1 x then (match iv[e.1]? with
    | some q => (max p.1 (q.1 - e.2.2), p.2)
    | none => p) else p)
theorem cx_tgt_s {σ : List Int} {iv : List cx_Iv} {x : Nat} {v : Int} (hi : cx_iv σ iv) (hx : σ[x]? = some v) : ∀ {cs : List cx_D3} {p : cx_Iv}, cx_cs σ cs → p.1 ≤ v ∧ v ≤ p.2 → (cx_tgt iv x cs p).1 ≤ v ∧ v ≤ (cx_tgt iv x cs p).2 := by
  intro cs
  induction cs with
  | nil => intro p _ h; exact h
  | cons e t ih =>
    intro p hc h
    unfold cx_tgt
    refine ih (fun e he => hc e (List.mem_cons_of_mem _ he)) ?_
    obtain ⟨a, b, h1, h2, h3⟩ := hc e List.mem_cons_self
    cases z1 : Nat.beq e.1 x with
    | true =>
      have z1 := Nat.eq_of_beq_eq_true z1
      rw [z1, hx] at h1
      injection h1 with h1
      simp only [cond_true]
      split
      · rename_i q hq
        have := hi.2 _ _ _ h2 hq
        simp only
        omega
      · exact h
    | false =>
      cases z2 : Nat.beq e.2.1 x with
      | true =>
        have z2 := Nat.eq_of_beq_eq_true z2
        rw [z2, hx] at h2
        injection h2 with h2
        simp only [cond_true, cond_false]
        split
        · rename_i q hq
          have := hi.2 _ _ _ h1 hq
          simp only
          omega
        · exact h
      | false => exact h
/-- a ≤ b + d follows from what is known -/
def cx_ent : Nat → List cx_Iv → List cx_D3 → Nat → Nat → Int → Bool
  | 0, iv, _, a, b, d => (Nat.beq a b && decide (0 ≤ d)) || (match iv[a]?, iv[b]? with
    | some p, some q => decide (p.2 ≤ q.1 + d)
    | _, _ => false)
  | n + 1, iv, cs, a, b, d => (Nat.beq a b && decide (0 ≤ d)) || ((match iv[a]?, iv[b]? with
    | some p, some q => decide (p.2 ≤ q.1 + d)
    | _, _ => false) || cs.any fun e => Nat.beq e.1 a && cx_ent n iv cs e.2.1 b (d - e.2.2))
theorem cx_ent_s {σ : List Int} {iv : List cx_Iv} {cs : List cx_D3} (h : cx_iv σ iv) (hc : cx_cs σ cs) : ∀ (n a b : Nat) (d u v : Int), cx_ent n iv cs a b d = true → σ[a]? = some u → σ[b]? = some v → u ≤ v + d := by
  have base : ∀ (a b : Nat) (d u v : Int), ((Nat.beq a b && decide (0 ≤ d)) || (match iv[a]?, iv[b]? with
    | some p, some q => decide (p.2 ≤ q.1 + d)
    | _, _ => false)) = true → σ[a]? = some u → σ[b]? = some v → u ≤ v + d := by
    intro a b d u v he ha hb
    rcases Bool.or_eq_true_iff.mp he with e | e
    · obtain ⟨e1, e2⟩ := Bool.and_eq_true_iff.mp e
      obtain rfl : a = b := Nat.eq_of_beq_eq_true e1
      have e2 := of_decide_eq_true e2
      rw [ha] at hb
      injection hb with hb
      omega
    · obtain ⟨p, hp, p1, p2⟩ := cx_iv_get h ha
      obtain ⟨q, hq, q1, q2⟩ := cx_iv_get h hb
      rw [hp, hq] at e
      have e := of_decide_eq_true e
      omega
  intro n
  induction n with
  | zero => intro a b d u v he; exact base a b d u v he
  | succ n ih =>
    intro a b d u v he ha hb
    unfold cx_ent at he
    rw [← Bool.or_assoc] at he
    rcases Bool.or_eq_true_iff.mp he with e | e
    · exact base a b d u v e ha hb
    · obtain ⟨z, hz, e1⟩ := List.any_eq_true.mp e
      obtain ⟨e2, e3⟩ := Bool.and_eq_true_iff.mp e1
      have e2 := Nat.eq_of_beq_eq_true e2
      obtain ⟨x, y, g1, g2, g3⟩ := hc z hz
      rw [e2, ha] at g1
      injection g1 with g1
      have := ih z.2.1 b (d - z.2.2) y v e3 g2 hb
      omega
/-! The instructions. -/
def cx_sg (c : Int) (k : Nat) : cx_S → Option cx_S
  | (ls, st, iv, cs, fs, cm) => some (ls, (k, iv.length) :: st, iv ++ [(c, c)], cs, fs, cm)
def cx_ld (k : Nat) (f : Nat → Bool) : cx_S → Option cx_S
  | (ls, st, iv, cs, fs, cm) => match ls[k]? with
    | some a => bif f a.1 then some (ls, a :: st, iv, cs, fs, cm) else none
    | none => none
def cx_sto (k : Nat) (f : Nat → Bool) : cx_S → Option cx_S
  | (ls, st, iv, cs, fs, cm) => match st with
    | a :: r => bif f a.1 then (cx_st1 ls k a).map fun ls' => (ls', r, iv, cs, fs, cm) else none
    | _ => none
def cx_sto2 (k : Nat) : cx_S → Option cx_S
  | (ls, st, iv, cs, fs, cm) => match st with
    | (1, s) :: r => (cx_st2 ls k (1, s)).map fun ls' => (ls', r, iv, cs, fs, cm)
    | _ => none
def cx_inc (k : Nat) (n : Int) : cx_S → Option cx_S
  | (ls, st, iv, cs, fs, cm) => match ls[k]? with
    | some (0, s) => match iv[s]? with
      | some p0 => match cx_tgt iv s cs p0 with
        | p => (cx_st1 ls k (0, iv.length)).map fun ls' => bif cx_inn (n, n) cx_i32 && cx_inn (p.1 + n, p.2 + n) cx_i32 then (ls', st, iv ++ [(p.1 + n, p.2 + n)], cx_eqd iv.length s n true ++ cs, fs, cm) else (ls', st, iv ++ [cx_i32], cs, fs, cm)
      | none => none
    | _ => none
def cx_bin (k : Nat) (g : cx_G) : cx_S → Option cx_S
  | (ls, st, iv, cs, fs, cm) => match st with
    | (a, y) :: (b, x) :: r => bif Nat.beq a k && Nat.beq b k then (match iv[x]?, iv[y]? with
      | some p, some q => some (ls, (k, iv.length) :: r, iv ++ [(g (cx_tgt iv x cs p) (cx_tgt iv y cs q) x y iv.length).1], (g (cx_tgt iv x cs p) (cx_tgt iv y cs q) x y iv.length).2 ++ cs, fs, cm)
      | _, _ => none) else none
    | _ => none
def cx_dvd (g : cx_G) : cx_S → Option cx_S
  | (ls, st, iv, cs, fs, cm) => match st with
    | (0, y) :: _ => match iv[y]? with
      | some q => bif decide (0 < q.1) || decide (q.2 < 0) then cx_bin 0 g (ls, st, iv, cs, fs, cm) else none
      | none => none
    | _ => none
/-- a shift of a long -/
def cx_shl : cx_S → Option cx_S
  | (ls, st, iv, cs, fs, cm) => match st with
    | (0, _) :: (1, _) :: r => some (ls, (1, iv.length) :: r, iv ++ [cx_i64], cs, fs, cm)
    | _ => none
def cx_lcm : cx_S → Option cx_S
  | (ls, st, iv, cs, fs, cm) => match st with
    | (1, y) :: (1, x) :: r => some (ls, (0, iv.length) :: r, iv ++ [(-1, 1)], cs, fs, (iv.length, x, y) :: cm)
    | _ => none
def cx_il : cx_S → Option cx_S
  | (ls, st, iv, cs, fs, cm) => match st with
    | (0, x) :: r => some (ls, (1, x) :: r, iv, cs, fs, cm)
    | _ => none
def cx_li : cx_S → Option cx_S
  | (ls, st, iv, cs, fs, cm) => match st with
    | (1, x) :: r => match iv[x]? with
      | some p => bif cx_inn p cx_i32 then some (ls, (0, x) :: r, iv, cs, fs, cm) else some (ls, (0, iv.length) :: r, iv ++ [cx_i32], cs, fs, cm)
      | none => none
    | _ => none
/-- an int or a reference -/
def cx_c1 (k : Nat) : Bool := Nat.beq k 0 || (Nat.beq k 2 || Nat.beq k 3)
def cx_dp : cx_S → Option cx_S
  | (ls, st, iv, cs, fs, cm) => match st with
    | a :: r => bif cx_c1 a.1 then some (ls, a :: a :: r, iv, cs, fs, cm) else none
    | _ => none
def cx_dp2 : cx_S → Option cx_S
  | (ls, st, iv, cs, fs, cm) => match st with
    | a :: b :: r => bif cx_c1 a.1 && cx_c1 b.1 then some (ls, a :: b :: a :: b :: r, iv, cs, fs, cm) else none
    | _ => none
def cx_pp (k : Nat → Bool) : cx_S → Option cx_S
  | (ls, st, iv, cs, fs, cm) => match st with
    | a :: r => bif k a.1 then some (ls, r, iv, cs, fs, cm) else none
    | _ => none
def cx_all (md : List (Nat × Nat)) (p : Nat) : Bool := md.any fun e => Nat.beq e.1 p && Nat.beq e.2 999
def cx_may (md : List (Nat × Nat)) (p k : Nat) : Bool := md.any fun e => Nat.beq e.1 p && (Nat.beq e.2 k || Nat.beq e.2 999)
def cx_arr (p w : Nat) : Option Nat := match cx_Ds[p]? with
  | some (q, n, _) => bif Nat.beq q w then some n else none
  | none => none
def cx_fld (p c k : Nat) : Option (Nat × Nat) := match cx_Ds[p]? with
  | some (_ + 2, c', fl) => bif Nat.beq c' c then fl[k]? else none
  | _ => none
def cx_rk (i : Nat) : Nat := bif Nat.beq i 0 || Nat.beq i 4 then 0 else 1
def cx_ix (p : cx_Iv) (n : Nat) : Bool := decide (0 ≤ p.1) && (decide (p.2 < (n : Int)))
def cx_ial (sc : Bool) (B : Nat → Nat → cx_Iv) (w : Nat) : cx_S → Option cx_S
  | (ls, st, iv, cs, fs, cm) => match st with
    | (0, i) :: (2, p) :: r => match iv[i]?, cx_arr p w with
      | some q, some n => bif cx_ix (cx_tgt iv i cs q) n then some (ls, (w, iv.length) :: r, iv ++ [bif Nat.beq w 0 then B p 0 else cx_i64], cs, fs, cm) else none
      | _, _ => none
    | (0, i) :: (6, _) :: r => match iv[i]? with
      | some q => bif sc && (Nat.beq w 0 && (decide (0 ≤ q.1) && cx_ent 3 iv cs i 0 (-1))) then some (ls, (0, iv.length) :: r, iv ++ [cx_i32], cs, fs, cm) else none
      | _ => none
    | _ => none
def cx_ias (B : Nat → Nat → cx_Iv) (md : List (Nat × Nat)) (w : Nat) : cx_S → Option cx_S
  | (ls, st, iv, cs, fs, cm) => match st with
    | (w', x) :: (0, i) :: (2, p) :: r => match iv[i]?, iv[x]?, cx_arr p w with
      | some q, some v, some n => bif Nat.beq w' w && (cx_ix (cx_tgt iv i cs q) n && (cx_all md p && (bif Nat.beq w 0 then cx_inn v (B p 0) else true))) then some (ls, r, iv, cs, fs.filter (fun e => !Nat.beq e.1 p), cm) else none
      | _, _, _ => none
    | _ => none
def cx_aln (sc : Bool) : cx_S → Option cx_S
  | (ls, st, iv, cs, fs, cm) => match st with
    | (2, p) :: r => match cx_Ds[p]? with
      | some (q, n, _) => bif Nat.ble q 1 && decide (n < 2147483648) then some (ls, (0, iv.length) :: r, iv ++ [((n : Int), (n : Int))], cs, fs, cm) else none
      | none => none
    | (6, _) :: r => bif sc then some (ls, (0, 0) :: r, iv, cs, fs, cm) else none
    | _ => none
def cx_gtf (B : Nat → Nat → cx_Iv) (c k : Nat) : cx_S → Option cx_S
  | (ls, st, iv, cs, fs, cm) => match st with
    | (2, p) :: r => match cx_fld p c k with
      | some (0, _) => match fs.find? (fun e => Nat.beq e.1 p && Nat.beq e.2.1 k) with
        | some e => some (ls, (0, e.2.2) :: r, iv, cs, fs, cm)
        | none => some (ls, (0, iv.length) :: r, iv ++ [B p k], cs, (p, k, iv.length) :: fs, cm)
      | some (1, _) => some (ls, (1, iv.length) :: r, iv ++ [cx_i64], cs, fs, cm)
      | some (2, q) => some (ls, (2, q) :: r, iv, cs, fs, cm)
      | some (_, i) => bif Nat.ble i 4 then some (ls, (3, cx_rk i) :: r, iv, cs, fs, cm) else none
      | none => none
    | _ => none
def cx_bool (c k : Nat) (p : cx_Iv) : Bool := match ez_ty0 c k with
  | .int => true
  | .boolean => cx_inn p (0, 1)
  | _ => false
def cx_isJ (c k : Nat) : Bool := match ez_ty0 c k with
  | .long => true
  | _ => false
def cx_ptf (B : Nat → Nat → cx_Iv) (md : List (Nat × Nat)) (c k : Nat) : cx_S → Option cx_S
  | (ls, st, iv, cs, fs, cm) => match st with
    | (0, x) :: (2, p) :: r => match cx_fld p c k, iv[x]? with
      | some (0, _), some v => bif cx_inn v (B p k) && (cx_bool c k v && cx_may md p k) then some (ls, r, iv, cs, (p, k, x) :: fs.filter (fun e => !(Nat.beq e.1 p && Nat.beq e.2.1 k)), cm) else none
      | _, _ => none
    | (1, _) :: (2, p) :: r => match cx_fld p c k with
      | some (1, _) => bif cx_isJ c k && cx_may md p k then some (ls, r, iv, cs, fs, cm) else none
      | _ => none
    | _ => none
def cx_b (sc : Bool) (B : Nat → Nat → cx_Iv) (md : List (Nat × Nat)) (i : Instr) (a b : Nat) : cx_S → Option cx_S := match i with
  | .aload_n k => cx_ld k.val fun q => Nat.beq q 2 || Nat.beq q 3 || Nat.beq q 6
  | .aload k => cx_ld k fun q => Nat.beq q 2 || Nat.beq q 3 || Nat.beq q 6
  | .iload_n k => cx_ld k.val fun q => Nat.beq q 0
  | .iload k => cx_ld k fun q => Nat.beq q 0
  | .lload_n k => cx_ld k.val fun q => Nat.beq q 1
  | .lload k => cx_ld k fun q => Nat.beq q 1
  | .istore_n k => cx_sto k.val fun q => Nat.beq q 0
  | .istore k => cx_sto k fun q => Nat.beq q 0
  | .lstore_n k => cx_sto2 k.val
  | .lstore k => cx_sto2 k
  | .astore_n k => cx_sto k.val fun q => Nat.beq q 2 || Nat.beq q 3
  | .astore k => cx_sto k fun q => Nat.beq q 2 || Nat.beq q 3
  | .iinc k n => cx_inc k n
  | .iconst n => cx_sg (Int32.ofInt n).toInt 0
  | .lconst n => cx_sg (Int64.ofNat n.val).toInt 1
  | .bipush n => cx_sg (Int8.ofInt n).toInt32.toInt 0
  | .sipush n => cx_sg (Int16.ofInt n).toInt32.toInt 0
  | .ldc _ => cx_sg (Int32.ofNat b).toInt 0
  | .ldc_w _ => cx_sg (Int32.ofNat b).toInt 0
  | .ldc2_w _ => cx_sg (Int64.ofNat b).toInt 1
  | .iadd => cx_bin 0 (cx_gAdd cx_i32)
  | .isub => cx_bin 0 (cx_gSub cx_i32)
  | .imul => cx_bin 0 (cx_gMul cx_i32)
  | .idiv => cx_dvd (cx_gF cx_i32)
  | .irem => cx_dvd (cx_gF cx_i32)
  | .iand => cx_bin 0 (cx_gAnd cx_i32)
  | .ior => cx_bin 0 (cx_gBit cx_i32)
  | .ixor => cx_bin 0 (cx_gBit cx_i32)
  | .ishl => cx_bin 0 (cx_gF cx_i32)
  | .ishr => cx_bin 0 (cx_gF cx_i32)
  | .iushr => cx_bin 0 (cx_gF cx_i32)
  | .ladd => cx_bin 1 (cx_gAdd cx_i64)
  | .lsub => cx_bin 1 (cx_gF cx_i64)
  | .lmul => cx_bin 1 (cx_gF cx_i64)
  | .land => cx_bin 1 (cx_gAnd cx_i64)
  | .lor => cx_bin 1 (cx_gF cx_i64)
  | .lxor => cx_bin 1 (cx_gF cx_i64)
  | .lshl => cx_shl
  | .lshr => cx_shl
  | .lushr => cx_shl
  | .lcmp => cx_lcm
  | .i2l => cx_il
  | .l2i => cx_li
  | .dup => cx_dp
  | .dup2 => cx_dp2
  | .pop => cx_pp cx_c1
  | .pop2 => cx_pp fun q => Nat.beq q 1
  | .iaload => cx_ial sc B 0
  | .laload => cx_ial sc B 1
  | .iastore => cx_ias B md 0
  | .lastore => cx_ias B md 1
  | .arraylength => cx_aln sc
  | .getfield _ => cx_gtf B a b
  | .putfield _ => cx_ptf B md a b
  | _ => fun _ => none
