/-! The reference finds the spots of a ship: never more than 288. -/
def cs_k : cx_K := (([(2, 35), (0, 0)], [], [(0, 2)], [], [], []), [], [])
def cs_k_A : List (Nat × cx_A) := [(35, ([(2, 35), (0, 0), (0, 1), (0, 2), (0, 3)], [], [(0, 2), (0, 0), (1, 8), (0, 0)], [], [], []), [])]
def cs_k_G : List (Nat × cx_K) := []
theorem cs_k_g : ∀ g ∈ cs_k_G, cx_valid cx_B0 g.1 g.2 := cx_Gn
set_option maxRecDepth 1000000 in
theorem cs_k_v : cx_run false cx_B0 cs_k_G cs_k 190 (cx_fAn cs_k_A) none 22 false 0 cs_k.1 = true := by decide +kernel
def cs_o : cx_K := (([(2, 35), (0, 0), (0, 1), (0, 2), (0, 3)], [], [(0, 2), cx_i32, cx_i32, cx_i32], [], [], []), [], [])
def cs_o_A : List (Nat × cx_A) := [(57, ([(2, 35), (0, 0), (0, 1), (0, 2), (0, 3), (0, 4), (0, 5)], [], [(0, 2), cx_i32, cx_i32, cx_i32, cx_i32, (0, 0)], [], [], []), [])]
def cs_o_G : List (Nat × cx_K) := [(230, ck_230_0)]
theorem cs_o_g : ∀ g ∈ cs_o_G, cx_valid cx_B0 g.1 g.2 := (cx_Gc cv_230_0 cx_Gn)
set_option maxRecDepth 1000000 in
theorem cs_o_v : cx_run false cx_B0 cs_o_G cs_o 190 (cx_fAn cs_o_A) none 13 false 41 cs_o.1 = true := by decide +kernel
def cq_fs : cx_K := (([(2, 35), (0, 0), (0, 1), (0, 2), (0, 3)], [], [(0, 2), (0, 300), cx_i32, cx_i32], [], [], []), [(40, 999)], [([], [], [(0, 2), (0, 300), cx_i32, cx_i32], [], [], [])])
set_option maxRecDepth 1000000 in
theorem cq_fs_v : cx_validp cx_B0 190 252 cq_fs := cx_chkp_s (G := [(165, ck_165_0)]) (An := [(255, ([(2, 35), (0, 0), (0, 1), (0, 2), (0, 4)], [], [(0, 2), (0, 300), cx_i32, cx_i32, (0, 300)], [], [], []), [(0, 99745), (1, 4)])]) (n := 29) cx_hA0 (cx_Gc cv_165_0 cx_Gn) (by decide +kernel)
theorem fs_pig : ∀ (n : Nat) (L : List Nat), L.Nodup → (∀ r ∈ L, r < n) → L.length ≤ n := by
  intro n
  induction n with
  | zero =>
    intro L _ h
    cases L with
    | nil => exact Nat.le_refl _
    | cons a t => exact absurd (h a List.mem_cons_self) (Nat.not_lt_zero _)
  | succ n ih =>
    intro L hd h
    have h1 := ih (L.erase n) (hd.erase n) (fun r hr => by
      have h2 := hd.mem_erase_iff.mp hr
      have h3 := h r h2.2
      have h4 := h2.1
      omega)
    by_cases hn : n ∈ L
    · rw [List.length_erase_of_mem hn] at h1
      omega
    · rw [List.erase_of_not_mem hn] at h1
      omega
theorem fs_300 {s k : Int32} (hs : 0 ≤ s.toInt ∧ s.toInt ≤ 2) (hk : 0 ≤ k.toInt ∧ k.toInt ≤ 300) : (300 * s + k).toInt = 300 * s.toInt + k.toInt := by
  have e : (300 * s).toInt = 300 * s.toInt := by
    rw [Int32.toInt_mul, show (300 : Int32).toInt = 300 from by decide, cx_bm32]
    simp only [cx_i32]
    omega
  rw [Int32.toInt_add, e, cx_bm32]
  simp only [cx_i32]
  omega
theorem fs_301 {s k : Int32} (hs : 0 ≤ s.toInt ∧ s.toInt ≤ 2) (hk : 0 ≤ k.toInt ∧ k.toInt ≤ 300) : (300 * s + k - 1).toInt = 300 * s.toInt + k.toInt - 1 := by
  rw [Int32.toInt_sub, fs_300 hs hk, show (1 : Int32).toInt = 1 from by decide, cx_bm32]
  simp only [cx_i32]
  omega
theorem fs_ixs {x : Int32} {n : Nat} (h0 : 0 ≤ x.toInt) (h1 : x.toInt < n) : ev_ix x n := by
  have e0 : (0 : Int32).toInt = 0 := by decide
  refine ⟨fun z => ?_, ?_⟩
  · have := Int32.lt_iff_toInt_lt.mp z
    omega
  · have e2 : x.toNatClampNeg = x.toInt.toNat := rfl
    omega
theorem fs_get (I : Nat → Nat → Int32) (J : Nat → Nat → Int64) (R : Nat → Nat) (T : List ez_C) (f : Nat → Int64) : (ev_hp I (ev_sJ J 39 f) R T)[39]? = some (.inl (900, .inr (.inl f))) := by
  rw [cx_getJ (show cx_Ds[39]? = some (1, 900, []) from rfl), cx_sJ_s]
theorem fs_sJ2 (J : Nat → Nat → Int64) (a : Nat) (f g : Nat → Int64) : ev_sJ (ev_sJ J a f) a g = ev_sJ J a g := by
  funext q
  by_cases h : q = a
  · subst h; rw [cx_sJ_s, cx_sJ_s]
  · rw [cx_sJ_n _ _ h, cx_sJ_n _ _ h, cx_sJ_n _ _ h]
theorem fs_set (I : Nat → Nat → Int32) (J : Nat → Nat → Int64) (R : Nat → Nat) (T : List ez_C) (f g : Nat → Int64) : (ev_hp I (ev_sJ J 39 f) R T).set 39 (.inl (900, .inr (.inl g))) = ev_hp I (ev_sJ J 39 g) R T := by
  rw [cx_setJ (show cx_Ds[39]? = some (1, 900, []) from rfl) g, fs_sJ2]
section
variable (X : ez_X) (I : Nat → Nat → Int32) (J : Nat → Nat → Int64) (R : Nat → Nat) (T : List ez_C) (s n kd t as m : Int32)
theorem fs_r1 (cz kz : Nat) : ∀ G : ez_F, fx_up X 3 G 190 57 [.ref 35, .int s, .int n, .int kd, .int t, .int as, .int m] [] (ev_hp I J R T) cz kz = bif decide (100 ≤ m) then G 190 239 [.ref 35, .int s, .int n, .int kd, .int t, .int as, .int m] [] (ev_hp I J R T) cz kz else G 190 64 [.ref 35, .int s, .int n, .int kd, .int t, .int as, .int m] [] (ev_hp I J R T) cz kz := by
  intro G
  rfl
set_option maxRecDepth 100000 in
theorem fs_r2 (cz kz : Nat) : ∀ G : ez_F, fx_up X 13 G 190 64 [.ref 35, .int s, .int n, .int kd, .int t, .int as, .int m] [] (ev_hp I J R T) cz kz = ev_C G 211 [.ref 35, .int as, .int (m - m / 10 * 10 - 4), .int (m / 10 - 4)] (ev_hp I J R T) fun r h1 c1 k1 => G 190 84 [.ref 35, .int s, .int n, .int kd, .int t, .int as, .int m] (r.toList ++ []) h1 (cz + c1) (kz + k1) := by
  intro G
  rfl
theorem fs_r3 (v : Int64) (cz kz : Nat) : ∀ G : ez_F, fx_up X 3 G 190 84 [.ref 35, .int s, .int n, .int kd, .int t, .int as, .int m] [.long v] (ev_hp I J R T) cz kz = G 190 89 [.ref 35, .int s, .int n, .int kd, .int t, .int as, .int m, .long v, ez_fill, .int n] [] (ev_hp I J R T) cz kz := by
  intro G
  rfl
theorem fs_r4 (v : Int64) (k : Int32) (cz kz : Nat) : ∀ G : ez_F, fx_up X 2 G 190 89 [.ref 35, .int s, .int n, .int kd, .int t, .int as, .int m, .long v, ez_fill, .int k] [] (ev_hp I J R T) cz kz = bif decide (k ≤ 0) then G 190 121 [.ref 35, .int s, .int n, .int kd, .int t, .int as, .int m, .long v, ez_fill, .int k] [] (ev_hp I J R T) cz kz else G 190 94 [.ref 35, .int s, .int n, .int kd, .int t, .int as, .int m, .long v, ez_fill, .int k] [] (ev_hp I J R T) cz kz := by
  intro G
  rfl
theorem fs_r5 (v : Int64) (k : Int32) (cz kz : Nat) : ∀ G : ez_F, fx_up X 9 G 190 94 [.ref 35, .int s, .int n, .int kd, .int t, .int as, .int m, .long v, ez_fill, .int k] [] (ev_hp I J R T) cz kz = G 190 108 [.ref 35, .int s, .int n, .int kd, .int t, .int as, .int m, .long v, ez_fill, .int k] [.int (300 * s + k - 1), .ref 39] (ev_hp I J R T) cz kz := by
  intro G
  rfl
theorem fs_r6 (v u : Int64) (k : Int32) (cz kz : Nat) : ∀ G : ez_F, fx_up X 3 G 190 109 [.ref 35, .int s, .int n, .int kd, .int t, .int as, .int m, .long v, ez_fill, .int k] [.long u] (ev_hp I J R T) cz kz = bif decide (lg_cmp u v ≤ 0) then G 190 121 [.ref 35, .int s, .int n, .int kd, .int t, .int as, .int m, .long v, ez_fill, .int k] [] (ev_hp I J R T) cz kz else G 190 115 [.ref 35, .int s, .int n, .int kd, .int t, .int as, .int m, .long v, ez_fill, .int k] [] (ev_hp I J R T) cz kz := by
  intro G
  rfl
theorem fs_r7 (v : Int64) (k : Int32) (cz kz : Nat) : ∀ G : ez_F, fx_up X 2 G 190 115 [.ref 35, .int s, .int n, .int kd, .int t, .int as, .int m, .long v, ez_fill, .int k] [] (ev_hp I J R T) cz kz = G 190 89 [.ref 35, .int s, .int n, .int kd, .int t, .int as, .int m, .long v, ez_fill, .int (k + Int32.ofInt (-1))] [] (ev_hp I J R T) cz kz := by
  intro G
  rfl
theorem fs_r8 (v : Int64) (k : Int32) (cz kz : Nat) : ∀ G : ez_F, fx_up X 4 G 190 121 [.ref 35, .int s, .int n, .int kd, .int t, .int as, .int m, .long v, ez_fill, .int k] [] (ev_hp I J R T) cz kz = bif decide (lg_cmp v 0 = 0) then G 190 158 [.ref 35, .int s, .int n, .int kd, .int t, .int as, .int m, .long v, ez_fill, .int k] [] (ev_hp I J R T) cz kz else G 190 128 [.ref 35, .int s, .int n, .int kd, .int t, .int as, .int m, .long v, ez_fill, .int k] [] (ev_hp I J R T) cz kz := by
  intro G
  rfl
theorem fs_r9 (v : Int64) (k : Int32) (cz kz : Nat) : ∀ G : ez_F, fx_up X 2 G 190 128 [.ref 35, .int s, .int n, .int kd, .int t, .int as, .int m, .long v, ez_fill, .int k] [] (ev_hp I J R T) cz kz = bif decide (k = 0) then G 190 154 [.ref 35, .int s, .int n, .int kd, .int t, .int as, .int m, .long v, ez_fill, .int k] [] (ev_hp I J R T) cz kz else G 190 133 [.ref 35, .int s, .int n, .int kd, .int t, .int as, .int m, .long v, ez_fill, .int k] [] (ev_hp I J R T) cz kz := by
  intro G
  rfl
theorem fs_rA (v : Int64) (k : Int32) (cz kz : Nat) : ∀ G : ez_F, fx_up X 9 G 190 133 [.ref 35, .int s, .int n, .int kd, .int t, .int as, .int m, .long v, ez_fill, .int k] [] (ev_hp I J R T) cz kz = G 190 147 [.ref 35, .int s, .int n, .int kd, .int t, .int as, .int m, .long v, ez_fill, .int k] [.int (300 * s + k - 1), .ref 39] (ev_hp I J R T) cz kz := by
  intro G
  rfl
theorem fs_rB (v u : Int64) (k : Int32) (cz kz : Nat) : ∀ G : ez_F, fx_up X 3 G 190 148 [.ref 35, .int s, .int n, .int kd, .int t, .int as, .int m, .long v, ez_fill, .int k] [.long u] (ev_hp I J R T) cz kz = bif decide (lg_cmp u v = 0) then G 190 158 [.ref 35, .int s, .int n, .int kd, .int t, .int as, .int m, .long v, ez_fill, .int k] [] (ev_hp I J R T) cz kz else G 190 154 [.ref 35, .int s, .int n, .int kd, .int t, .int as, .int m, .long v, ez_fill, .int k] [] (ev_hp I J R T) cz kz := by
  intro G
  rfl
theorem fs_rC (v : Int64) (k : Int32) (cz kz : Nat) : ∀ G : ez_F, fx_up X 5 G 190 154 [.ref 35, .int s, .int n, .int kd, .int t, .int as, .int m, .long v, ez_fill, .int k] [] (ev_hp I J R T) cz kz = G 190 164 [.ref 35, .int s, .int n, .int kd, .int t, .int as, .int m, .long v, ez_fill, .int k, .int 1, .int n] [] (ev_hp I J R T) cz kz := by
  intro G
  rfl
theorem fs_rD (v : Int64) (k : Int32) (cz kz : Nat) : ∀ G : ez_F, fx_up X 4 G 190 158 [.ref 35, .int s, .int n, .int kd, .int t, .int as, .int m, .long v, ez_fill, .int k] [] (ev_hp I J R T) cz kz = G 190 164 [.ref 35, .int s, .int n, .int kd, .int t, .int as, .int m, .long v, ez_fill, .int k, .int 0, .int n] [] (ev_hp I J R T) cz kz := by
  intro G
  rfl
theorem fs_rE (v : Int64) (k w i : Int32) (cz kz : Nat) : ∀ G : ez_F, fx_up X 3 G 190 164 [.ref 35, .int s, .int n, .int kd, .int t, .int as, .int m, .long v, ez_fill, .int k, .int w, .int i] [] (ev_hp I J R T) cz kz = bif decide (i ≤ k) then G 190 210 [.ref 35, .int s, .int n, .int kd, .int t, .int as, .int m, .long v, ez_fill, .int k, .int w, .int i] [] (ev_hp I J R T) cz kz else G 190 171 [.ref 35, .int s, .int n, .int kd, .int t, .int as, .int m, .long v, ez_fill, .int k, .int w, .int i] [] (ev_hp I J R T) cz kz := by
  intro G
  rfl
theorem fs_rF (v : Int64) (k w i : Int32) (cz kz : Nat) : ∀ G : ez_F, fx_up X 2 G 190 171 [.ref 35, .int s, .int n, .int kd, .int t, .int as, .int m, .long v, ez_fill, .int k, .int w, .int i] [] (ev_hp I J R T) cz kz = bif decide (w = 0) then G 190 210 [.ref 35, .int s, .int n, .int kd, .int t, .int as, .int m, .long v, ez_fill, .int k, .int w, .int i] [] (ev_hp I J R T) cz kz else G 190 176 [.ref 35, .int s, .int n, .int kd, .int t, .int as, .int m, .long v, ez_fill, .int k, .int w, .int i] [] (ev_hp I J R T) cz kz := by
  intro G
  rfl
set_option maxRecDepth 100000 in
theorem fs_rG (v : Int64) (k w i : Int32) (cz kz : Nat) : ∀ G : ez_F, fx_up X 16 G 190 176 [.ref 35, .int s, .int n, .int kd, .int t, .int as, .int m, .long v, ez_fill, .int k, .int w, .int i] [] (ev_hp I J R T) cz kz = G 190 202 [.ref 35, .int s, .int n, .int kd, .int t, .int as, .int m, .long v, ez_fill, .int k, .int w, .int i] [.int (300 * s + i - 1), .ref 39, .int (300 * s + i), .ref 39] (ev_hp I J R T) cz kz := by
  intro G
  rfl
theorem fs_rH (v : Int64) (k w i : Int32) (cz kz : Nat) : ∀ G : ez_F, fx_up X 2 G 190 204 [.ref 35, .int s, .int n, .int kd, .int t, .int as, .int m, .long v, ez_fill, .int k, .int w, .int i] [] (ev_hp I J R T) cz kz = G 190 164 [.ref 35, .int s, .int n, .int kd, .int t, .int as, .int m, .long v, ez_fill, .int k, .int w, .int (i + Int32.ofInt (-1))] [] (ev_hp I J R T) cz kz := by
  intro G
  rfl
theorem fs_rI (v : Int64) (k w i : Int32) (cz kz : Nat) : ∀ G : ez_F, fx_up X 2 G 190 210 [.ref 35, .int s, .int n, .int kd, .int t, .int as, .int m, .long v, ez_fill, .int k, .int w, .int i] [] (ev_hp I J R T) cz kz = bif decide (w = 0) then G 190 233 [.ref 35, .int s, .int n, .int kd, .int t, .int as, .int m, .long v, ez_fill, .int k, .int w, .int i] [] (ev_hp I J R T) cz kz else G 190 215 [.ref 35, .int s, .int n, .int kd, .int t, .int as, .int m, .long v, ez_fill, .int k, .int w, .int i] [] (ev_hp I J R T) cz kz := by
  intro G
  rfl
theorem fs_rJ (v : Int64) (k w i : Int32) (cz kz : Nat) : ∀ G : ez_F, fx_up X 8 G 190 215 [.ref 35, .int s, .int n, .int kd, .int t, .int as, .int m, .long v, ez_fill, .int k, .int w, .int i] [] (ev_hp I J R T) cz kz = G 190 229 [.ref 35, .int s, .int n, .int kd, .int t, .int as, .int m, .long v, ez_fill, .int k, .int w, .int i] [.long v, .int (300 * s + k), .ref 39] (ev_hp I J R T) cz kz := by
  intro G
  rfl
theorem fs_rK (v : Int64) (k w i : Int32) (cz kz : Nat) : ∀ G : ez_F, fx_up X 1 G 190 230 [.ref 35, .int s, .int n, .int kd, .int t, .int as, .int m, .long v, ez_fill, .int k, .int w, .int i] [] (ev_hp I J R T) cz kz = G 190 233 [.ref 35, .int s, .int (n + 1), .int kd, .int t, .int as, .int m, .long v, ez_fill, .int k, .int w, .int i] [] (ev_hp I J R T) cz kz := by
  intro G
  rfl
theorem fs_rL (v : Int64) (k w i : Int32) (cz kz : Nat) : ∀ G : ez_F, fx_up X 2 G 190 233 [.ref 35, .int s, .int n, .int kd, .int t, .int as, .int m, .long v, ez_fill, .int k, .int w, .int i] [] (ev_hp I J R T) cz kz = G 190 57 [.ref 35, .int s, .int n, .int kd, .int t, .int as, .int (m + 1), .long v, ez_fill, .int k, .int w, .int i] [] (ev_hp I J R T) cz kz := by
  intro G
  rfl
theorem fs_rM (cz kz : Nat) : ∀ G : ez_F, fx_up X 2 G 190 239 [.ref 35, .int s, .int n, .int kd, .int t, .int as, .int m] [] (ev_hp I J R T) cz kz = G 190 35 [.ref 35, .int s, .int n, .int kd, .int (t + 1), .int as, .int m] [] (ev_hp I J R T) cz kz := by
  intro G
  rfl
theorem fs_rO (cz kz : Nat) : ∀ G : ez_F, fx_up X 4 G 190 245 [.ref 35, .int s, .int n, .int kd, .int t] [] (ev_hp I J R T) cz kz = G 190 251 [.ref 35, .int s, .int n, .int kd, .int t] [.int n, .int s, .ref 38] (ev_hp I J R T) cz kz := by
  intro G
  rfl
theorem fs_rN (cz kz : Nat) : ∀ G : ez_F, fx_up X 3 G 190 35 [.ref 35, .int s, .int n, .int kd, .int t] [] (ev_hp I J R T) cz kz = bif decide (kd ≤ t) then G 190 245 [.ref 35, .int s, .int n, .int kd, .int t] [] (ev_hp I J R T) cz kz else G 190 41 [.ref 35, .int s, .int n, .int kd, .int t] [] (ev_hp I J R T) cz kz := by
  intro G
  rfl
end
/-! shifting a part of a row by one -/
def fs_sh (f : Nat → Int64) (S i n : Nat) : Nat → Int64 := fun q => if 300 * S + i < q ∧ q ≤ 300 * S + n then f (q - 1) else f q
theorem fs_sh_0 (f : Nat → Int64) (S n : Nat) : fs_sh f S n n = f := by
  funext q
  unfold fs_sh
  rw [if_neg (by omega)]
theorem fs_sh_1 (f : Nat → Int64) (S i n : Nat) (h0 : 0 < i) (h1 : i ≤ n) : vp_updL (fs_sh f S i n) (300 * S + i) (fs_sh f S i n (300 * S + (i - 1))) = fs_sh f S (i - 1) n := by
  funext q
  unfold vp_updL fs_sh
  by_cases hq : q = 300 * S + i
  · rw [if_pos hq, if_neg (by omega), if_pos (by omega)]
    congr 1
    omega
  · rw [if_neg hq]
    by_cases h2 : 300 * S + i < q ∧ q ≤ 300 * S + n
    · rw [if_pos h2, if_pos (by omega)]
    · rw [if_neg h2, if_neg (by omega)]
theorem fs_cmp (u v : Int64) : (lg_cmp u v ≤ 0 ↔ u.toInt ≤ v.toInt) ∧ (lg_cmp u v = 0 ↔ u = v) := by
  obtain ⟨h1, h2, h3, h4⟩ := cx_lgcmp u v
  have e0 : (0 : Int32).toInt = 0 := by decide
  refine ⟨?_, ?_⟩
  · rw [Int32.le_iff_toInt_le, e0]
    omega
  · rw [← Int32.toInt_inj, e0, ← Int64.toInt_inj]
    omega
theorem fs_dec {k : Int32} (h : 0 < k.toInt) : (k + Int32.ofInt (-1)).toInt = k.toInt - 1 := by
  rw [Int32.toInt_add, show (Int32.ofInt (-1)).toInt = -1 from by decide, cx_bm32]
  · omega
  · have := Int32.toInt_lt k
    simp only [cx_i32]
    omega
section
variable {X : ez_X} {I : Nat → Nat → Int32} {J : Nat → Nat → Int64} {R : Nat → Nat} {T : List ez_C} {s n kd t as m : Int32} {v : Int64} {f : Nat → Int64} {Q : ev_Q} {cz kz : Nat}
/-- the place of a set in a row that rises -/
theorem fs_w (hs : 0 ≤ s.toInt ∧ s.toInt ≤ 2) (hn : 0 ≤ n.toInt ∧ n.toInt ≤ 300)
    (cont : ∀ (k : Int32) (N : Nat), k.toInt = N → N ≤ n.toInt.toNat → (∀ a : Nat, N ≤ a → a < n.toInt.toNat → v.toInt < (f (300 * s.toInt.toNat + a)).toInt) → (N = 0 ∨ (f (300 * s.toInt.toNat + (N - 1))).toInt ≤ v.toInt) →
      ev_W X 190 121 [.ref 35, .int s, .int n, .int kd, .int t, .int as, .int m, .long v, ez_fill, .int k] [] (ev_hp I (ev_sJ J 39 f) R T) cz kz Q) :
    ∀ (N : Nat) (k : Int32), k.toInt = N → N ≤ n.toInt.toNat → (∀ a : Nat, N ≤ a → a < n.toInt.toNat → v.toInt < (f (300 * s.toInt.toNat + a)).toInt) →
      ev_W X 190 89 [.ref 35, .int s, .int n, .int kd, .int t, .int as, .int m, .long v, ez_fill, .int k] [] (ev_hp I (ev_sJ J 39 f) R T) cz kz Q := by
  have e0 : (0 : Int32).toInt = 0 := by decide
  intro N
  induction N with
  | zero =>
    intro k hk hN ha
    refine ev_if (fs_r4 X I _ R T s n kd t as m v k _ _) (fun _ => cont k 0 hk hN ha (Or.inl rfl)) (fun ht => ?_)
    exact absurd (Int32.le_iff_toInt_le.mpr (by rw [e0]; omega)) (of_decide_eq_false ht)
  | succ N ih =>
    intro k hk hN ha
    refine ev_if (fs_r4 X I _ R T s n kd t as m v k _ _) (fun ht => ?_) (fun _ => ?_)
    · have := Int32.le_iff_toInt_le.mp (of_decide_eq_true ht)
      rw [e0] at this
      omega
    have hk2 : 0 ≤ k.toInt ∧ k.toInt ≤ 300 := by omega
    have hx := fs_301 hs hk2
    refine ev_seg (fs_r5 X I _ R T s n kd t as m v k _ _) ?_
    refine ev_lald (by rfl) (fs_get I J R T f) (fs_ixs (by omega) (by omega)) ?_
    have ei : (300 * s + k - 1).toNatClampNeg = 300 * s.toInt.toNat + N := by
      have e2 : (300 * s + k - 1).toNatClampNeg = (300 * s + k - 1).toInt.toNat := rfl
      omega
    rw [ei]
    refine ev_if (fs_r6 X I _ R T s n kd t as m v _ k _ _) (fun ht => ?_) (fun ht => ?_)
    · refine cont k (N + 1) hk hN ha (Or.inr ?_)
      exact (fs_cmp _ _).1.mp (of_decide_eq_true ht)
    · have hlt : v.toInt < (f (300 * s.toInt.toNat + N)).toInt := Int.not_le.mp fun z => of_decide_eq_false ht ((fs_cmp _ _).1.mpr z)
      refine ev_seg (fs_r7 X I _ R T s n kd t as m v k _ _) ?_
      refine ih _ ?_ (by omega) fun a h1 h2 => ?_
      · rw [fs_dec (by omega)]
        omega
      · by_cases h3 : a = N
        · rw [h3]; exact hlt
        · exact ha a (by omega) h2
theorem fs_n {k : Int32} {N : Nat} (hs : 0 ≤ s.toInt ∧ s.toInt ≤ 2) (hk : k.toInt = N) (hN : N ≤ 300)
    (c1 : v ≠ 0 → (N = 0 ∨ f (300 * s.toInt.toNat + (N - 1)) ≠ v) → ev_W X 190 164 [.ref 35, .int s, .int n, .int kd, .int t, .int as, .int m, .long v, ez_fill, .int k, .int 1, .int n] [] (ev_hp I (ev_sJ J 39 f) R T) cz kz Q)
    (c0 : (v = 0 ∨ (N ≠ 0 ∧ f (300 * s.toInt.toNat + (N - 1)) = v)) → ev_W X 190 164 [.ref 35, .int s, .int n, .int kd, .int t, .int as, .int m, .long v, ez_fill, .int k, .int 0, .int n] [] (ev_hp I (ev_sJ J 39 f) R T) cz kz Q) :
    ev_W X 190 121 [.ref 35, .int s, .int n, .int kd, .int t, .int as, .int m, .long v, ez_fill, .int k] [] (ev_hp I (ev_sJ J 39 f) R T) cz kz Q := by
  have e0 : (0 : Int32).toInt = 0 := by decide
  refine ev_if (fs_r8 X I _ R T s n kd t as m v k _ _) (fun ht => ?_) (fun ht => ?_)
  · exact ev_seg (fs_rD X I _ R T s n kd t as m v k _ _) (c0 (Or.inl ((fs_cmp _ _).2.mp (of_decide_eq_true ht))))
  have hv : v ≠ 0 := fun z => of_decide_eq_false ht ((fs_cmp _ _).2.mpr z)
  refine ev_if (fs_r9 X I _ R T s n kd t as m v k _ _) (fun ht => ?_) (fun ht => ?_)
  · have hk0 := of_decide_eq_true ht
    refine ev_seg (fs_rC X I _ R T s n kd t as m v k _ _) (c1 hv (Or.inl ?_))
    rw [hk0, e0] at hk
    omega
  have hN0 : N ≠ 0 := fun z => of_decide_eq_false ht (cx_i32_eq (by rw [e0]; omega))
  have hx := fs_301 hs (k := k) (by omega)
  refine ev_seg (fs_rA X I _ R T s n kd t as m v k _ _) ?_
  refine ev_lald (by rfl) (fs_get I J R T f) (fs_ixs (by omega) (by omega)) ?_
  have ei : (300 * s + k - 1).toNatClampNeg = 300 * s.toInt.toNat + (N - 1) := by
    have e2 : (300 * s + k - 1).toNatClampNeg = (300 * s + k - 1).toInt.toNat := rfl
    omega
  rw [ei]
  refine ev_if (fs_rB X I _ R T s n kd t as m v _ k _ _) (fun ht => ?_) (fun ht => ?_)
  · exact ev_seg (fs_rD X I _ R T s n kd t as m v k _ _) (c0 (Or.inr ⟨hN0, (fs_cmp _ _).2.mp (of_decide_eq_true ht)⟩))
  · exact ev_seg (fs_rC X I _ R T s n kd t as m v k _ _) (c1 hv (Or.inr fun z => of_decide_eq_false ht ((fs_cmp _ _).2.mpr z)))
/-- the shift -/
theorem fs_s {k : Int32} {N : Nat} (hs : 0 ≤ s.toInt ∧ s.toInt ≤ 2) (hn : 0 ≤ n.toInt ∧ n.toInt ≤ 299) (hk : k.toInt = N)
    (cont : ∀ i : Int32, ev_W X 190 210 [.ref 35, .int s, .int n, .int kd, .int t, .int as, .int m, .long v, ez_fill, .int k, .int 1, .int i] [] (ev_hp I (ev_sJ J 39 (fs_sh f s.toInt.toNat N n.toInt.toNat)) R T) cz kz Q) :
    ∀ (D : Nat) (i : Int32) (M : Nat), i.toInt = M → M = N + D → M ≤ n.toInt.toNat → ev_W X 190 164 [.ref 35, .int s, .int n, .int kd, .int t, .int as, .int m, .long v, ez_fill, .int k, .int 1, .int i] [] (ev_hp I (ev_sJ J 39 (fs_sh f s.toInt.toNat M n.toInt.toNat)) R T) cz kz Q := by
  intro D
  induction D with
  | zero =>
    intro i M hi hM hMn
    obtain rfl : M = N := by omega
    refine ev_if (fs_rE X I _ R T s n kd t as m v k 1 i _ _) (fun _ => cont i) (fun ht => ?_)
    exact absurd (Int32.le_iff_toInt_le.mpr (by omega)) (of_decide_eq_false ht)
  | succ D ih =>
    intro i M hi hM hMn
    refine ev_if (fs_rE X I _ R T s n kd t as m v k 1 i _ _) (fun ht => ?_) (fun _ => ?_)
    · have := Int32.le_iff_toInt_le.mp (of_decide_eq_true ht)
      omega
    refine ev_if (fs_rF X I _ R T s n kd t as m v k 1 i _ _) (fun ht => absurd (of_decide_eq_true ht) (by decide)) (fun _ => ?_)
    have h1 := fs_301 hs (k := i) (by omega)
    have h2 := fs_300 hs (k := i) (by omega)
    refine ev_seg (fs_rG X I _ R T s n kd t as m v k 1 i _ _) ?_
    refine ev_lald (by rfl) (fs_get I J R T _) (fs_ixs (by omega) (by omega)) ?_
    have e1 : (300 * s + i - 1).toNatClampNeg = 300 * s.toInt.toNat + (M - 1) := by
      have e2 : (300 * s + i - 1).toNatClampNeg = (300 * s + i - 1).toInt.toNat := rfl
      omega
    have e2 : (300 * s + i).toNatClampNeg = 300 * s.toInt.toNat + M := by
      have e2 : (300 * s + i).toNatClampNeg = (300 * s + i).toInt.toNat := rfl
      omega
    rw [e1]
    refine ev_lastH (h2 := ev_hp I (ev_sJ J 39 (fs_sh f s.toInt.toNat (M - 1) n.toInt.toNat)) R T) (by rfl) (fs_get I J R T _) (fs_ixs (by omega) (by omega)) (by rw [e2, fs_sh_1 _ _ _ _ (by omega) hMn, fs_set]) ?_
    refine ev_seg (fs_rH X I _ R T s n kd t as m v k 1 i _ _) ?_
    exact ih _ (M - 1) (by rw [fs_dec (by omega)]; omega) (by omega) (by omega)
end
