/-! The reference's spots: kept in order, each once, counted by remainders. -/
def fs_ins (f : Nat → Int64) (S k n : Nat) (v : Int64) : Nat → Int64 := vp_updL (fs_sh f S k n) (300 * S + k) v
theorem fs_ins_at (f : Nat → Int64) (S k n : Nat) (v : Int64) (j : Nat) : fs_ins f S k n v (300 * S + j) = if j = k then v else if k < j ∧ j ≤ n then f (300 * S + (j - 1)) else f (300 * S + j) := by
  unfold fs_ins vp_updL fs_sh
  by_cases h : j = k
  · rw [if_pos (by omega), if_pos h]
  · rw [if_neg (by omega), if_neg h]
    by_cases h2 : k < j ∧ j ≤ n
    · rw [if_pos (by omega), if_pos h2, show 300 * S + j - 1 = 300 * S + (j - 1) by omega]
    · rw [if_neg (by omega), if_neg h2]
def fs_srt (f : Nat → Int64) (S n : Nat) : Prop := ∀ a b, a < b → b < n → (f (300 * S + a)).toInt < (f (300 * S + b)).toInt
section
variable {f : Nat → Int64} {S k n : Nat} {v : Int64}
theorem fs_below (h : fs_srt f S n) (hk : k ≤ n) (lo : k = 0 ∨ (f (300 * S + (k - 1))).toInt < v.toInt) (a : Nat) (ha : a < k) : (f (300 * S + a)).toInt < v.toInt := by
  rcases lo with rfl | lo
  · omega
  · by_cases h2 : a = k - 1
    · rw [h2]; exact lo
    · exact Int.lt_trans (h a (k - 1) (by omega) (by omega)) lo
theorem fs_ins_srt (h : fs_srt f S n) (hk : k ≤ n) (hi : ∀ a : Nat, k ≤ a → a < n → v.toInt < (f (300 * S + a)).toInt) (lo : k = 0 ∨ (f (300 * S + (k - 1))).toInt < v.toInt) : fs_srt (fs_ins f S k n v) S (n + 1) := by
  have bl := fs_below h hk lo
  intro a b hab hb
  rw [fs_ins_at, fs_ins_at]
  by_cases hbk : b = k
  · rw [if_pos hbk, if_neg (by omega), if_neg (by omega)]
    exact bl a (by omega)
  rw [if_neg hbk]
  by_cases hb2 : k < b ∧ b ≤ n
  · rw [if_pos hb2]
    by_cases hak : a = k
    · rw [if_pos hak]
      exact hi _ (by omega) (by omega)
    · rw [if_neg hak]
      by_cases ha2 : k < a ∧ a ≤ n
      · rw [if_pos ha2]
        exact h _ _ (by omega) (by omega)
      · rw [if_neg ha2]
        exact h _ _ (by omega) (by omega)
  · rw [if_neg hb2, if_neg (by omega), if_neg (by omega)]
    exact h _ _ hab (by omega)
theorem fs_ins_mem {w : Int64} (h : ∃ a, a < n ∧ f (300 * S + a) = w) : ∃ a, a < n + 1 ∧ fs_ins f S k n v (300 * S + a) = w := by
  obtain ⟨a, ha, hw⟩ := h
  by_cases hk : a < k
  · exact ⟨a, by omega, by rw [fs_ins_at, if_neg (by omega), if_neg (by omega)]; exact hw⟩
  · exact ⟨a + 1, by omega, by rw [fs_ins_at, if_neg (by omega), if_pos (by omega), Nat.add_sub_cancel]; exact hw⟩
theorem fs_out (h : fs_srt f S n) (hk : k ≤ n) (hi : ∀ a : Nat, k ≤ a → a < n → v.toInt < (f (300 * S + a)).toInt) (lo : k = 0 ∨ (f (300 * S + (k - 1))).toInt < v.toInt) : ¬ ∃ a, a < n ∧ f (300 * S + a) = v := by
  rintro ⟨a, ha, hv⟩
  by_cases h2 : a < k
  · have := fs_below h hk lo a h2
    rw [hv] at this
    omega
  · have := hi a (by omega) ha
    rw [hv] at this
    omega
end
/-! the moves -/
def fs_dx (m : Nat) : Int32 := Int32.ofNat m - Int32.ofNat m / 10 * 10 - 4
def fs_dy (m : Nat) : Int32 := Int32.ofNat m / 10 - 4
theorem fs_dtab : ((List.range 100).all fun m => decide ((fs_dx m).toInt = ((m % 10 : Nat) : Int) - 4) && decide ((fs_dy m).toInt = ((m / 10 : Nat) : Int) - 4)) = true := by decide +kernel
theorem fs_d {m : Nat} (h : m < 100) : (fs_dx m).toInt = ((m % 10 : Nat) : Int) - 4 ∧ (fs_dy m).toInt = ((m / 10 : Nat) : Int) - 4 := by
  have h1 := List.all_eq_true.mp fs_dtab m (List.mem_range.mpr h)
  obtain ⟨h2, h3⟩ := Bool.and_eq_true_iff.mp h1
  exact ⟨of_decide_eq_true h2, of_decide_eq_true h3⟩
def fs_mv (I : Nat → Nat → Int32) (as : Int32) (m : Nat) : Int64 := mv_F (I 35 0) (I 35 1) (I 35 2) as (fs_dx m) (fs_dy m) 16 0 0
def fs_res (I : Nat → Nat → Int32) (m : Nat) : Nat := ((m % 10) % (I 35 0).toInt.toNat) * 6 + (m / 10) % (I 35 1).toInt.toNat
section
variable {I : Nat → Nat → Int32} {as : Int32}
theorem fs_modz {w : Int} {a b : Nat} (hw : 2 ≤ w ∧ w ≤ 6) (h : a % w.toNat = b % w.toNat) : (((a : Nat) : Int) - 4 - (((b : Nat) : Int) - 4)) % w = 0 := by
  rcases (show w = 2 ∨ w = 3 ∨ w = 4 ∨ w = 5 ∨ w = 6 by omega) with rfl | rfl | rfl | rfl | rfl
  · simp only [show ((2 : Int).toNat) = 2 from rfl] at h; omega
  · simp only [show ((3 : Int).toNat) = 3 from rfl] at h; omega
  · simp only [show ((4 : Int).toNat) = 4 from rfl] at h; omega
  · simp only [show ((5 : Int).toNat) = 5 from rfl] at h; omega
  · simp only [show ((6 : Int).toNat) = 6 from rfl] at h; omega
theorem fs_res_lt (hW : 2 ≤ (I 35 0).toInt ∧ (I 35 0).toInt ≤ 6) (hH : 2 ≤ (I 35 1).toInt ∧ (I 35 1).toInt ≤ 6) (m : Nat) : fs_res I m < 36 := by
  unfold fs_res
  have h1 : (m % 10) % (I 35 0).toInt.toNat < (I 35 0).toInt.toNat := Nat.mod_lt _ (by omega)
  have h2 : (m / 10) % (I 35 1).toInt.toNat < (I 35 1).toInt.toNat := Nat.mod_lt _ (by omega)
  omega
theorem fs_res_eq (hwr : I 35 2 = 0 ∨ I 35 2 = 1) (hW : 2 ≤ (I 35 0).toInt ∧ (I 35 0).toInt ≤ 6) (hH : 2 ≤ (I 35 1).toInt ∧ (I 35 1).toInt ≤ 6) {m m' : Nat} (hm : m < 100) (hm' : m' < 100) (h : fs_res I m = fs_res I m') (n1 : fs_mv I as m ≠ 0) (n2 : fs_mv I as m' ≠ 0) : fs_mv I as m = fs_mv I as m' := by
  unfold fs_res at h
  have h1 : (m / 10) % (I 35 1).toInt.toNat < (I 35 1).toInt.toNat := Nat.mod_lt _ (by omega)
  have h2 : (m' / 10) % (I 35 1).toInt.toNat < (I 35 1).toInt.toNat := Nat.mod_lt _ (by omega)
  have hx : (m % 10) % (I 35 0).toInt.toNat = (m' % 10) % (I 35 0).toInt.toNat := by omega
  have hy : (m / 10) % (I 35 1).toInt.toNat = (m' / 10) % (I 35 1).toInt.toNat := by omega
  obtain ⟨d1, d2⟩ := fs_d hm
  obtain ⟨d3, d4⟩ := fs_d hm'
  exact mv_same hwr hW hH (by omega) (by omega) (by omega) (by omega) (by rw [d1, d3]; exact fs_modz hW hx) (by rw [d2, d4]; exact fs_modz hH hy) n1 n2
end
def fs_inv (I : Nat → Nat → Int32) (as : Int32) (f : Nat → Int64) (S n t m : Nat) : Prop := fs_srt f S n ∧ (∀ m', m' < m → fs_mv I as m' ≠ 0 → ∃ a, a < n ∧ f (300 * S + a) = fs_mv I as m') ∧
  ∃ L : List Nat, L.Nodup ∧ (∀ r ∈ L, r < 36 ∧ ∃ m', m' < m ∧ fs_mv I as m' ≠ 0 ∧ fs_res I m' = r) ∧ n ≤ 36 * t + L.length
section
variable {I : Nat → Nat → Int32} {as : Int32} {f : Nat → Int64} {S n t m k : Nat}
theorem fs_inv_n (h : fs_inv I as f S n t m) : n ≤ 36 * t + 36 := by
  obtain ⟨-, -, L, h1, h2, h3⟩ := h
  have := fs_pig 36 L h1 fun r hr => (h2 r hr).1
  omega
theorem fs_inv_new (hwr : I 35 2 = 0 ∨ I 35 2 = 1) (hW : 2 ≤ (I 35 0).toInt ∧ (I 35 0).toInt ≤ 6) (hH : 2 ≤ (I 35 1).toInt ∧ (I 35 1).toInt ≤ 6) (hm : m < 100) (h : fs_inv I as f S n t m) (hk : k ≤ n) (hne : fs_mv I as m ≠ 0) (hi : ∀ a : Nat, k ≤ a → a < n → (fs_mv I as m).toInt < (f (300 * S + a)).toInt) (lo : k = 0 ∨ (f (300 * S + (k - 1))).toInt < (fs_mv I as m).toInt) :
    fs_inv I as (fs_ins f S k n (fs_mv I as m)) S (n + 1) t (m + 1) := by
  obtain ⟨h1, h2, L, h3, h4, h5⟩ := h
  have hout := fs_out h1 hk hi lo
  refine ⟨fs_ins_srt h1 hk hi lo, fun m' hm' hn' => ?_, fs_res I m :: L, List.nodup_cons.mpr ⟨fun hr => ?_, h3⟩, fun r hr => ?_, by simp only [List.length_cons]; omega⟩
  · by_cases he : m' = m
    · subst he
      exact ⟨k, by omega, by rw [fs_ins_at, if_pos rfl]⟩
    · exact fs_ins_mem (h2 m' (by omega) hn')
  · obtain ⟨-, m', g1, g2, g3⟩ := h4 _ hr
    have := fs_res_eq (as := as) hwr hW hH (by omega) hm g3 g2 hne
    rw [← this] at hout
    exact hout (h2 m' g1 g2)
  · rcases List.mem_cons.mp hr with rfl | hr
    · exact ⟨fs_res_lt hW hH m, m, by omega, hne, rfl⟩
    · obtain ⟨g0, m', g1, g2, g3⟩ := h4 r hr
      exact ⟨g0, m', by omega, g2, g3⟩
theorem fs_inv_old (h : fs_inv I as f S n t m) (ho : fs_mv I as m = 0 ∨ ∃ a, a < n ∧ f (300 * S + a) = fs_mv I as m) : fs_inv I as f S n t (m + 1) := by
  obtain ⟨h1, h2, L, h3, h4, h5⟩ := h
  refine ⟨h1, fun m' hm' hn' => ?_, L, h3, fun r hr => ?_, h5⟩
  · by_cases he : m' = m
    · subst he
      rcases ho with ho | ho
      · exact absurd ho hn'
      · exact ho
    · exact h2 m' (by omega) hn'
  · obtain ⟨g0, m', g1, g2, g3⟩ := h4 r hr
    exact ⟨g0, m', by omega, g2, g3⟩
end
section
variable {X : ez_X} {I : Nat → Nat → Int32} {J : Nat → Nat → Int64} {R : Nat → Nat} {T : List ez_C} {s kd t as : Int32} {Q : ev_Q} {cz kz tn : Nat}
theorem fs_m (hwr : I 35 2 = 0 ∨ I 35 2 = 1) (hW : 2 ≤ (I 35 0).toInt ∧ (I 35 0).toInt ≤ 6) (hH : 2 ≤ (I 35 1).toInt ∧ (I 35 1).toInt ≤ 6) (hs : 0 ≤ s.toInt ∧ s.toInt ≤ 2) (ht : tn ≤ 7)
    (cont : ∀ (f : Nat → Int64) (n m : Int32) (N : Nat), n.toInt = N → fs_srt f s.toInt.toNat N → N ≤ 36 * tn + 36 → ev_W X 190 239 [.ref 35, .int s, .int n, .int kd, .int t, .int as, .int m] [] (ev_hp I (ev_sJ J 39 f) R T) cz kz Q) :
    ∀ (D M N : Nat) (m n : Int32) (f : Nat → Int64), m.toInt = M → n.toInt = N → M + D = 100 → fs_inv I as f s.toInt.toNat N tn M → ev_W X 190 57 [.ref 35, .int s, .int n, .int kd, .int t, .int as, .int m] [] (ev_hp I (ev_sJ J 39 f) R T) cz kz Q := by
  have e0 : (0 : Int32).toInt = 0 := by decide
  have e1 : (1 : Int32).toInt = 1 := by decide
  have e100 : (100 : Int32).toInt = 100 := by decide
  intro D
  induction D with
  | zero =>
    intro M N m n f hm hn hD hinv
    refine ev_if (fs_r1 X I _ R T s n kd t as m _ _) (fun _ => cont f n m N hn hinv.1 (fs_inv_n hinv)) (fun hc => ?_)
    exact absurd (Int32.le_iff_toInt_le.mpr (by rw [e100]; omega)) (of_decide_eq_false hc)
  | succ D ih =>
    intro M N m n f hm hn hD hinv
    have hN := fs_inv_n hinv
    refine ev_if (fs_r1 X I _ R T s n kd t as m _ _) (fun hc => ?_) (fun _ => ?_)
    · have := Int32.le_iff_toInt_le.mp (of_decide_eq_true hc)
      rw [e100] at this
      omega
    have em : m = Int32.ofNat M := cx_i32_eq (by rw [Int32.toInt_ofNat_of_lt (by omega)]; omega)
    have hm1 : (m + 1).toInt = ((M + 1 : Nat) : Int) := by
      rw [Int32.toInt_add, e1, cx_bm32]
      · omega
      · simp only [cx_i32]; omega
    have hnW : ¬ I 35 0 = 0 := fun z => by rw [z, e0] at hW; omega
    have hnH : ¬ I 35 1 = 0 := fun z => by rw [z, e0] at hH; omega
    refine ev_call (fs_r2 X I _ R T s n kd t as m _ _) (eh_mv X I _ R T as _ _ hnW hnH) ?_
    rintro _ _ _ _ ⟨rfl, rfl, rfl, rfl⟩
    have ev : mv_F (I 35 0) (I 35 1) (I 35 2) as (m - m / 10 * 10 - 4) (m / 10 - 4) 16 0 0 = fs_mv I as M := by rw [em]; rfl
    rw [ev]
    -- behind the place: the next move
    have next : ∀ (n' : Int32) (v : Int64) (k w i : Int32) (N' : Nat) (f' : Nat → Int64), n'.toInt = N' → fs_inv I as f' s.toInt.toNat N' tn (M + 1) → ev_W X 190 233 [.ref 35, .int s, .int n', .int kd, .int t, .int as, .int m, .long v, ez_fill, .int k, .int w, .int i] [] (ev_hp I (ev_sJ J 39 f') R T) cz kz Q := by
      intro n' v k w i N' f' hn' hi'
      refine ev_seg (fs_rL X I _ R T s n' kd t as m v k w i _ _) ?_
      refine ev_cutl (by rfl) ?_
      exact ih (M + 1) N' (m + 1) n' f' hm1 hn' (by omega) hi'
    refine ev_seg (fs_r3 X I _ R T s n kd t as m _ _ _) ?_
    generalize hv : fs_mv I as M = v
    refine fs_w hs (by omega) (fun k K hk hK hi hlo => ?_) N n hn (by omega) (fun a h1 h2 => by omega)
    rw [hn, Int.toNat_natCast] at hK hi
    refine fs_n hs hk (by omega) (fun hne hlo2 => ?_) (fun ho => ?_)
    · -- a new one
      have hlt : K = 0 ∨ (f (300 * s.toInt.toNat + (K - 1))).toInt < v.toInt := by
        rcases hlo with h | h
        · exact Or.inl h
        · rcases hlo2 with h2 | h2
          · exact Or.inl h2
          · refine Or.inr ?_
            have : ¬ (f (300 * s.toInt.toNat + (K - 1))).toInt = v.toInt := fun z => h2 (Int64.toInt_inj.mp z)
            omega
      have h1 := fs_s (X := X) (I := I) (J := J) (R := R) (T := T) (s := s) (n := n) (kd := kd) (t := t) (as := as) (m := m) (v := v) (f := f) (Q := Q) (cz := cz) (kz := kz) (k := k) (N := K) hs (by omega) hk (fun i => ?_) (N - K) n N hn (by omega) (by omega)
      · have e : fs_sh f s.toInt.toNat N n.toInt.toNat = f := by rw [hn, Int.toNat_natCast]; exact fs_sh_0 _ _ _
        rw [e] at h1
        exact h1
      · refine ev_if (fs_rI X I _ R T s n kd t as m v k 1 i _ _) (fun hc => absurd (of_decide_eq_true hc) (by decide)) (fun _ => ?_)
        have hx := fs_300 hs (k := k) (by omega)
        have ei : (300 * s + k).toNatClampNeg = 300 * s.toInt.toNat + K := by
          have e2 : (300 * s + k).toNatClampNeg = (300 * s + k).toInt.toNat := rfl
          omega
        refine ev_seg (fs_rJ X I _ R T s n kd t as m v k 1 i _ _) ?_
        refine ev_lastH (h2 := ev_hp I (ev_sJ J 39 (fs_ins f s.toInt.toNat K N v)) R T) (by rfl) (fs_get I J R T _) (fs_ixs (by omega) (by omega)) (by rw [ei, hn, Int.toNat_natCast, fs_set]; rfl) ?_
        refine ev_seg (fs_rK X I _ R T s n kd t as m v k 1 i _ _) ?_
        have hn1 : (n + 1).toInt = ((N + 1 : Nat) : Int) := by
          rw [Int32.toInt_add, e1, cx_bm32]
          · omega
          · simp only [cx_i32]; omega
        refine next (n + 1) v k 1 i (N + 1) _ hn1 ?_
        rw [← hv] at hne hlt hi ⊢
        exact fs_inv_new hwr hW hH (by omega) hinv hK hne hi hlt
    · -- not a new one
      have hinv' : fs_inv I as f s.toInt.toNat N tn (M + 1) := by
        refine fs_inv_old hinv ?_
        rw [hv]
        rcases ho with h | ⟨h, h2⟩
        · exact Or.inl h
        · exact Or.inr ⟨K - 1, by omega, h2⟩
      have z210 : ∀ i : Int32, ev_W X 190 210 [.ref 35, .int s, .int n, .int kd, .int t, .int as, .int m, .long v, ez_fill, .int k, .int 0, .int i] [] (ev_hp I (ev_sJ J 39 f) R T) cz kz Q := by
        intro i
        refine ev_if (fs_rI X I _ R T s n kd t as m v k 0 i _ _) (fun _ => next n v k 0 i N f hn hinv') (fun hc => absurd rfl (of_decide_eq_false hc))
      refine ev_if (fs_rE X I _ R T s n kd t as m v k 0 n _ _) (fun _ => z210 n) (fun _ => ?_)
      exact ev_if (fs_rF X I _ R T s n kd t as m v k 0 n _ _) (fun _ => z210 n) (fun hc => absurd rfl (of_decide_eq_false hc))
end
