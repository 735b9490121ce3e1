section
/-! The class: the pairs of cells, exactly. -/
/-! the first pair with the least greatest part -/
noncomputable def psB (g : Nat → Nat → Nat) (a : Nat) : Nat → Nat × Nat × Nat → Nat × Nat × Nat
  | 0, s => s
  | d + 1, s => if g a (a + 1 + d) < (psB g a d s).2.2 then (a, a + 1 + d, g a (a + 1 + d)) else psB g a d s
noncomputable def psA (g : Nat → Nat → Nat) (c : Nat) : Nat → Nat × Nat × Nat → Nat × Nat × Nat
  | 0, s => s
  | a + 1, s => psB g a (c - (a + 1)) (psA g c a s)
theorem psB_le (g : Nat → Nat → Nat) (a : Nat) : ∀ d s, (psB g a d s).2.2 ≤ s.2.2 := by
  intro d
  induction d with
  | zero => exact fun s => Nat.le_refl _
  | succ d ih =>
    intro s
    have := ih s
    unfold psB
    split
    · show g a (a + 1 + d) ≤ _
      omega
    · exact this
theorem psA_le (g : Nat → Nat → Nat) (c : Nat) : ∀ a s, (psA g c a s).2.2 ≤ s.2.2 := by
  intro a
  induction a with
  | zero => exact fun s => Nat.le_refl _
  | succ a ih =>
    intro s
    exact Nat.le_trans (psB_le _ _ _ _) (ih s)
theorem psB_one (g : Nat → Nat → Nat) (a m : Nat) (hm : g a (a + 1) ≤ m) : ∀ d s, 0 < d → (psB g a d s).2.2 ≤ m := by
  intro d
  induction d with
  | zero => exact fun _ h => absurd h (Nat.lt_irrefl 0)
  | succ d ih =>
    intro s _
    by_cases h0 : d = 0
    · subst h0
      show (if g a (a + 1 + 0) < s.2.2 then (a, a + 1 + 0, g a (a + 1 + 0)) else s).2.2 ≤ m
      split
      · exact hm
      · rename_i h
        have h : ¬ g a (a + 1) < s.2.2 := h
        omega
    · have := ih s (by omega)
      unfold psB
      split
      · show g a (a + 1 + d) ≤ m
        omega
      · exact this
theorem psA_one (g : Nat → Nat → Nat) (c m : Nat) (hc : 2 ≤ c) (hm : g 0 1 ≤ m) : ∀ a s, 0 < a → (psA g c a s).2.2 ≤ m := by
  intro a
  induction a with
  | zero => exact fun _ h => absurd h (Nat.lt_irrefl 0)
  | succ a ih =>
    intro s _
    by_cases h0 : a = 0
    · subst h0
      exact psB_one g 0 m hm (c - 1) s (by omega)
    · exact Nat.le_trans (psB_le _ _ _ _) (ih s (by omega))
/-! the parts of a salvo -/
noncomputable def sbN (u v : Bool) : Nat := (bif u then 1 else 0) + (bif v then 1 else 0)
noncomputable def ptB (lk : Nat → Bool) (P : Nat → Nat → Bool) (l a b v : Nat) : Nat := cq (fun k => lk k && decide (sbN (P k a) (P k b) = v)) l
noncomputable def gB (lk : Nat → Bool) (P : Nat → Nat → Bool) (l a b : Nat) : Nat := max (ptB lk P l a b 2) (max (ptB lk P l a b 1) (ptB lk P l a b 0))
theorem sbN_2 (u v : Bool) : sbN u v ≤ 2 := by cases u <;> cases v <;> decide
theorem ptB_n (lk : Nat → Bool) (P : Nat → Nat → Bool) (l a b : Nat) : cq lk l = ptB lk P l a b 0 + ptB lk P l a b 1 + ptB lk P l a b 2 := (cq_3 (an := fun k => sbN (P k a) (P k b)) (G := lk) (fun _ => sbN_2 _ _) l).symm
theorem ptB_2 (lk : Nat → Bool) (P : Nat → Nat → Bool) (l a b : Nat) : cq (fun k => lk k && (P k a && P k b)) l = ptB lk P l a b 2 := cq_c _ fun k _ => by
  cases lk k <;> cases P k a <;> cases P k b <;> rfl
theorem ptB_s (lk : Nat → Bool) (P : Nat → Nat → Bool) (l a b : Nat) : cq (fun k => lk k && P k a) l + cq (fun k => lk k && P k b) l = ptB lk P l a b 1 + 2 * ptB lk P l a b 2 := by
  unfold ptB
  induction l with
  | zero => rfl
  | succ l ih =>
    have e : ∀ p : Nat → Bool, cq p (l + 1) = cq p l + (bif p l then 1 else 0) := fun _ => rfl
    rw [e, e, e, e]
    cases h0 : lk l
    · simp only [Bool.false_and, cond_false]
      omega
    · cases h1 : P l a
      · cases h2 : P l b
        · show cq _ l + 0 + (cq _ l + 0) = cq _ l + 0 + 2 * (cq _ l + 0)
          omega
        · show cq _ l + 0 + (cq _ l + 1) = cq _ l + 1 + 2 * (cq _ l + 0)
          omega
      · cases h2 : P l b
        · show cq _ l + 1 + (cq _ l + 0) = cq _ l + 1 + 2 * (cq _ l + 0)
          omega
        · show cq _ l + 1 + (cq _ l + 1) = cq _ l + 0 + 2 * (cq _ l + 1)
          omega
theorem gB_le (lk : Nat → Bool) (P : Nat → Nat → Bool) (l a b : Nat) : gB lk P l a b ≤ cq lk l := by
  have := ptB_n lk P l a b
  unfold gB
  omega
theorem io_swp {x y z w : Int32} (h : x + z = w + y) : x - y + z = w := by
  rw [Int32.sub_eq_add_neg, Int32.add_assoc, Int32.add_comm (-y) z, ← Int32.add_assoc, h, ← Int32.sub_eq_add_neg, Int32.add_sub_cancel]
section
variable {N : Nat} {X : ez_X} {I A : Nat → Nat → Int32} {J : Nat → Nat → Int64} {R : Nat → Nat} {T : List ez_C} {x y : Int32} {z : Int64} {n l : Nat} {g1 g2 : Nat → Int64}
noncomputable def pq_Q (I : Nat → Nat → Int32) (J : Nat → Nat → Int64) (R : Nat → Nat) (T : List ez_C) (D : Nat → Nat → Nat) (F0 : Nat → Int32) : pw_Q := fun r h => r = none ∧ ∃ F, h = ev_hp (ev_sI I 21 F) J R T ∧ ∀ a b, a < b → b < 36 → F (36 * a + b) = F0 (36 * a + b) + Int32.ofNat (D a b)
theorem pe_pairsIn3 {F0 : Nat → Int32} (hz : onp 36 z) : pe N X 116 [.ref 20, .long z] (ev_hp (ev_sI I 21 F0) J R T) (pq_Q I J R T (fun a b => bif kb z a && kb z b then 1 else 0) F0) := by
  have inner : ∀ (a : Nat), a < 36 → ∀ (n : Int32) (u : Int64) (F1 : Nat → Int32), (∀ F, (∀ a' b', a' < b' → b' < 36 → F (36 * a' + b') = F1 (36 * a' + b') + Int32.ofNat (bif decide (a' = a) && kb z b' then 1 else 0)) → ∀ N, pw N X 116 5 [.ref 20, .long z, ez_fill, .long u, ez_fill, .int (n + (1 : Int32))] [] (ev_hp (ev_sI I 21 F) J R T) (pq_Q I J R T (fun a b => bif kb z a && kb z b then 1 else 0) F0)) → ∀ (d c0 : Nat), c0 + d = 36 → a < c0 → ∀ (m : Nat) (w : Int64) (F : Nat → Int32), m ≤ c0 → (∀ i, kb w i = (kb z i && decide (c0 ≤ i))) → (∀ a' b', a' < b' → b' < 36 → F (36 * a' + b') = F1 (36 * a' + b') + Int32.ofNat (bif decide (a' = a) && (kb z b' && decide (b' < c0)) then 1 else 0)) → ∀ N, pw N X 116 36 [.ref 20, .long z, ez_fill, .long u, ez_fill, .int n, .int (Int32.ofNat a), .long w, ez_fill, .int (Int32.ofNat m)] [] (ev_hp (ev_sI I 21 F) J R T) (pq_Q I J R T (fun a b => bif kb z a && kb z b then 1 else 0) F0) := by
    intro a ha n u F1 go d
    induction d using Nat.strongRecOn with
    | _ d ih =>
      intro c0 hcd hac m w F hm hw hF N
      have done : w = 0 → ∀ N, pw N X 116 5 [.ref 20, .long z, ez_fill, .long u, ez_fill, .int (n + (1 : Int32))] [] (ev_hp (ev_sI I 21 F) J R T) (pq_Q I J R T (fun a b => bif kb z a && kb z b then 1 else 0) F0) := by
        rintro rfl
        refine go F fun a' b' hab hb => ?_
        rw [hF a' b' hab hb]
        have h1 := hw b'
        rw [kb_0] at h1
        cases hk : kb z b'
        · rfl
        · rw [hk, Bool.true_and] at h1
          have h2 := of_decide_eq_false h1.symm
          rw [decide_eq_true (show b' < c0 by omega)]
          rfl
      have none36 : 36 ≤ c0 → w = 0 := fun hb => kb_ext fun i _ => by
        rw [hw i, kb_0]
        by_cases h1 : c0 ≤ i
        · rw [hz i (by omega), Bool.false_and]
        · rw [decide_eq_false h1, Bool.and_false]
      refine pw_p (pi_36 ?_)
      rw [lg_eq]
      refine ⟨fun g => done (none36 ?_) _, fun _ => ⟨fun g2 => done g2 _, fun g2 => ?_⟩⟩
      · rw [show (36 : Int32) = Int32.ofNat 36 from rfl, io_le (by omega) (by omega)] at g
        omega
      · obtain ⟨j, j1, j2, j3⟩ := low_bit g2
        refine ⟨_, pe_ntz j2 j3 j1, ?_⟩
        rintro r h ⟨rfl, rfl⟩
        have hj : kb z j = true ∧ c0 ≤ j := by
          have h1 := hw j
          rw [j2] at h1
          obtain ⟨h2, h3⟩ := Bool.and_eq_true_iff.mp h1.symm
          exact ⟨h2, of_decide_eq_true h3⟩
        have hj36 : j < 36 := by
          apply Classical.byContradiction
          intro h1
          have h2 := hz j (by omega)
          rw [hj.1] at h2
          cases h2
        refine pw_p (pi_60 ?_)
        rw [show (36 : Int32) * Int32.ofNat a = Int32.ofNat (36 * a) from io_mul 36 a, io_add, cx_sI_s, at_in (show 36 * a + j < 1296 by omega) (by decide), put_in (show 36 * a + j < 1296 by omega) (by decide), sI2, io_1]
        refine ih (36 - (j + 1)) (by omega) (j + 1) (by omega) (by omega) (m + 1) _ _ (by omega) (fun i => ?_) (fun a' b' hab hb => ?_) N
        · rw [kb_less j2 j3, hw i]
          by_cases h1 : j + 1 ≤ i
          · rw [decide_eq_true (show c0 ≤ i by omega), decide_eq_true (p := i ≠ j) (by omega), decide_eq_true h1, Bool.and_true]
          · rw [decide_eq_false h1, Bool.and_false]
            by_cases h2 : i = j
            · rw [decide_eq_false (p := i ≠ j) (fun z => z h2), Bool.and_false]
            · have h3 := j3 i (by omega)
              rw [hw i] at h3
              rw [h3, Bool.false_and]
        · by_cases h1 : 36 * a' + b' = 36 * a + j
          · obtain ⟨rfl, rfl⟩ : a' = a ∧ b' = j := by omega
            rw [upd_s, hF a' b' hab hb, hj.1, decide_eq_true rfl, decide_eq_false (show ¬ b' < c0 by omega), decide_eq_true (show b' < b' + 1 by omega)]
            show F1 (36 * a' + b') + 0 + 1 = F1 (36 * a' + b') + 1
            rw [Int32.add_zero]
          · rw [upd_n _ _ h1, hF a' b' hab hb]
            by_cases h2 : a' = a
            · have h4 : b' ≠ j := fun e => h1 (by rw [h2, e])
              by_cases h5 : b' < c0
              · rw [decide_eq_true h5, decide_eq_true (show b' < j + 1 by omega)]
              · rw [decide_eq_false h5]
                by_cases h3 : b' < j
                · have h6 := j3 b' h3
                  rw [hw b', decide_eq_true (show c0 ≤ b' by omega), Bool.and_true] at h6
                  simp only [h6, Bool.and_false, Bool.false_and]
                · rw [decide_eq_false (show ¬ b' < j + 1 by omega)]
            · rw [decide_eq_false h2, Bool.false_and, Bool.false_and]
  have outer : ∀ (d b0 : Nat), b0 + d = 36 → ∀ (n : Nat) (u : Int64) (F : Nat → Int32), n ≤ b0 → (∀ i, kb u i = (kb z i && decide (b0 ≤ i))) → (∀ a' b', a' < b' → b' < 36 → F (36 * a' + b') = F0 (36 * a' + b') + Int32.ofNat (bif (kb z a' && kb z b') && decide (a' < b0) then 1 else 0)) → ∀ N, pw N X 116 5 [.ref 20, .long z, ez_fill, .long u, ez_fill, .int (Int32.ofNat n)] [] (ev_hp (ev_sI I 21 F) J R T) (pq_Q I J R T (fun a b => bif kb z a && kb z b then 1 else 0) F0) := by
    intro d
    induction d using Nat.strongRecOn with
    | _ d ih =>
      intro b0 hbd n u F hn hu hF N
      have done : u = 0 → pq_Q I J R T (fun a b => bif kb z a && kb z b then 1 else 0) F0 none (ev_hp (ev_sI I 21 F) J R T) := by
        rintro rfl
        refine ⟨rfl, F, rfl, fun a' b' hab hb => ?_⟩
        rw [hF a' b' hab hb]
        show F0 (36 * a' + b') + Int32.ofNat (bif (kb z a' && kb z b') && decide (a' < b0) then 1 else 0) = F0 (36 * a' + b') + Int32.ofNat (bif kb z a' && kb z b' then 1 else 0)
        have h1 := hu a'
        rw [kb_0] at h1
        cases hk : kb z a'
        · rfl
        · rw [hk, Bool.true_and] at h1
          have h2 := of_decide_eq_false h1.symm
          rw [decide_eq_true (show a' < b0 by omega), Bool.and_true]
      have none36 : 36 ≤ b0 → u = 0 := fun hb => kb_ext fun i _ => by
        rw [hu i, kb_0]
        by_cases h1 : b0 ≤ i
        · rw [hz i (by omega), Bool.false_and]
        · rw [decide_eq_false h1, Bool.and_false]
      refine pw_p (pi_5 ?_)
      rw [lg_eq]
      refine ⟨fun g => done (none36 ?_), fun _ => ⟨fun g2 => done g2, fun g2 => ?_⟩⟩
      · rw [show (36 : Int32) = Int32.ofNat 36 from rfl, io_le (by omega) (by omega)] at g
        omega
      · obtain ⟨j, j1, j2, j3⟩ := low_bit g2
        refine ⟨_, pe_ntz j2 j3 j1, ?_⟩
        rintro r h ⟨rfl, rfl⟩
        have hj : kb z j = true ∧ b0 ≤ j := by
          have h1 := hu j
          rw [j2] at h1
          obtain ⟨h2, h3⟩ := Bool.and_eq_true_iff.mp h1.symm
          exact ⟨h2, of_decide_eq_true h3⟩
        have hj36 : j < 36 := by
          apply Classical.byContradiction
          intro h1
          have h2 := hz j (by omega)
          rw [hj.1] at h2
          cases h2
        have hu' : ∀ i, kb (u &&& (u - 1)) i = (kb z i && decide (j + 1 ≤ i)) := fun i => by
          rw [kb_less j2 j3, hu i]
          by_cases h1 : j + 1 ≤ i
          · rw [decide_eq_true (show b0 ≤ i by omega), decide_eq_true (p := i ≠ j) (by omega), decide_eq_true h1, Bool.and_true]
          · rw [decide_eq_false h1, Bool.and_false]
            by_cases h2 : i = j
            · rw [decide_eq_false (p := i ≠ j) (fun z => z h2), Bool.and_false]
            · have h3 := j3 i (by omega)
              rw [hu i] at h3
              rw [h3, Bool.false_and]
        refine pw_p (pi_22 (inner j hj36 (Int32.ofNat n) _ F (fun F' hF' N => ?_) (36 - (j + 1)) (j + 1) (by omega) (by omega) 0 _ F (Nat.zero_le _) hu' (fun a' b' hab hb => ?_) N))
        · rw [io_1]
          refine ih (36 - (j + 1)) (by omega) (j + 1) (by omega) (n + 1) _ F' (by omega) hu' (fun a' b' hab hb => ?_) N
          rw [hF' a' b' hab hb, hF a' b' hab hb]
          by_cases h1 : a' = j
          · subst h1
            rw [hj.1, decide_eq_true rfl, decide_eq_false (show ¬ a' < b0 by omega), decide_eq_true (show a' < a' + 1 by omega), Bool.and_false, Bool.and_true]
            show F0 _ + 0 + Int32.ofNat (bif true && kb z b' then 1 else 0) = _
            rw [Int32.add_zero]
          · rw [decide_eq_false h1, Bool.false_and]
            show F0 _ + _ + 0 = _
            rw [Int32.add_zero]
            by_cases h2 : a' < b0
            · rw [decide_eq_true h2, decide_eq_true (show a' < j + 1 by omega)]
            · rw [decide_eq_false h2, Bool.and_false]
              by_cases h3 : a' < j
              · have h4 := j3 a' h3
                rw [hu a', decide_eq_true (show b0 ≤ a' by omega), Bool.and_true] at h4
                rw [h4, Bool.false_and, Bool.false_and]
              · rw [decide_eq_false (show ¬ a' < j + 1 by omega), Bool.and_false]
        · by_cases h1 : a' = j
          · rw [decide_eq_false (show ¬ b' < j + 1 by omega), Bool.and_false, Bool.and_false]
            exact (Int32.add_zero _).symm
          · rw [decide_eq_false h1, Bool.false_and]
            exact (Int32.add_zero _).symm
  exact pe_of (pw_p (pi_0 (outer 36 0 (by omega) 0 z F0 (Nat.le_refl 0) (fun i => by rw [decide_eq_true (Nat.zero_le i), Bool.and_true]) (fun a' b' _ _ => by
    rw [decide_eq_false (Nat.not_lt_zero a'), Bool.and_false]
    exact (Int32.add_zero _).symm) _)))
theorem pe_countPairs3 (e63 : I 6 3 = Int32.ofNat l) (hl : l ≤ n) (hn : n ≤ 10000) (r1 : rowJ (R 1) T n g1) (r2 : rowJ (R 2) T n g2) (hb : 0 ≤ (I 2 2).toInt ∧ (I 2 2).toInt ≤ 2) (ho : ∀ k, k < l → onp 36 (g2 k)) : pe N X 115 [.ref 20] (ev_hp I J R T) (fun r h => r = none ∧ ∃ F, h = ev_hp (ev_sI I 21 F) J R T ∧ ∀ a b, a < b → b < 36 → F (36 * a + b) = Int32.ofNat (cq (fun k => lfB I J (g1 k) && (kb (g2 k) a && kb (g2 k) b)) l)) := by
  have hlf : ∀ (F : Nat → Int32) u, lfB (ev_sI I 21 F) J u = lfB I J u := fun F u => lfB_c (cx_sI_n I F (show (2 : Nat) ≠ 21 by decide)) u
  have loop2 : ∀ (d k : Nat), k + d = l → ∀ F, (∀ a b, a < b → b < 36 → F (36 * a + b) = Int32.ofNat (cq (fun k => lfB I J (g1 k) && (kb (g2 k) a && kb (g2 k) b)) k)) → ∀ N, pw N X 115 26 [.ref 20, .int (Int32.ofNat k)] [] (ev_hp (ev_sI I 21 F) J R T) (fun r h => r = none ∧ ∃ F, h = ev_hp (ev_sI I 21 F) J R T ∧ ∀ a b, a < b → b < 36 → F (36 * a + b) = Int32.ofNat (cq (fun k => lfB I J (g1 k) && (kb (g2 k) a && kb (g2 k) b)) l)) := by
    intro d
    induction d with
    | zero =>
      intro k hk F hF N
      obtain rfl : k = l := by omega
      refine pw_p (pu_26 ⟨fun _ => ⟨rfl, F, rfl, hF⟩, fun g => ?_⟩)
      rw [cx_sI_n _ _ (show (6 : Nat) ≠ 21 by decide), e63] at g
      exact absurd (Int32.le_refl _) g
    | succ d ih =>
      intro k hkd F hF N
      have nxt := fun F hF N => ih (k + 1) (by omega) F hF N
      have ez : ∀ (p : Nat → Bool), cq p (k + 1) = cq p k + (bif p k then 1 else 0) := fun _ => rfl
      refine pw_p (pu_26 ⟨fun g => ?_, fun _ => ⟨_, pe_isLeft r1 hn (by omega) (by rw [cx_sI_n _ _ (show (2 : Nat) ≠ 21 by decide)]; exact hb) rfl, ?_⟩⟩)
      · rw [cx_sI_n _ _ (show (6 : Nat) ≠ 21 by decide), e63, io_le (by omega) (by omega)] at g
        omega
      rintro r h ⟨rfl, rfl⟩
      rw [hlf]
      refine pw_p (pu_45 ⟨fun g => ?_, fun g => ⟨_, pe_placesOf (k := k) r2 hn (by omega) rfl, ?_⟩⟩)
      · have hf : lfB I J (g1 k) = false := by
          cases hz : lfB I J (g1 k)
          · rfl
          · rw [hz] at g
            exact absurd g (by decide)
        rw [io_1]
        refine nxt F (fun a b hab hb => ?_) _
        rw [ez, hf, hF a b hab hb]
        rfl
      · have hf : lfB I J (g1 k) = true := by
          cases hz : lfB I J (g1 k)
          · rw [hz] at g
            exact absurd rfl g
          · rfl
        rintro r h ⟨rfl, rfl⟩
        refine pw_p (pu_57 ⟨_, pe_pairsIn3 (ho k (by omega)), ?_⟩)
        rintro r h ⟨rfl, F', rfl, hF'⟩
        refine pw_p (pu_60 ?_)
        rw [io_1]
        refine nxt F' (fun a b hab hb => ?_) _
        rw [hF' a b hab hb, hF a b hab hb, ez, hf, Bool.true_and, io_add]
  have loop1 : ∀ (d i : Nat), i + d = 1296 → ∀ F, (∀ j, j < i → F j = 0) → ∀ N, pw N X 115 2 [.ref 20, .int (Int32.ofNat i)] [] (ev_hp (ev_sI I 21 F) J R T) (fun r h => r = none ∧ ∃ F, h = ev_hp (ev_sI I 21 F) J R T ∧ ∀ a b, a < b → b < 36 → F (36 * a + b) = Int32.ofNat (cq (fun k => lfB I J (g1 k) && (kb (g2 k) a && kb (g2 k) b)) l)) := by
    intro d
    induction d with
    | zero =>
      intro i hi F hF N
      obtain rfl : i = 1296 := by omega
      exact pw_p (pu_2 ⟨fun _ => loop2 l 0 (by omega) F (fun a b hab hb => hF _ (by omega)) _, fun g => absurd (Int32.le_refl _) g⟩)
    | succ d ih =>
      intro i hid F hF N
      refine pw_p (pu_2 ⟨fun g => ?_, fun _ _ => ?_⟩)
      · rw [io_le (by omega) (by omega)] at g
        omega
      rw [io_1, io_cl (by omega), cx_sI_s, sI2]
      refine ih (i + 1) (by omega) _ (fun j hj => ?_) _
      by_cases e : j = i
      · rw [e, upd_s]
      · rw [upd_n _ _ e]
        exact hF j (by omega)
  have h5 := loop1 1296 0 (by omega) (I 21) (fun j hj => absurd hj (Nat.not_lt_zero j)) N
  rw [sI_self] at h5
  exact pe_of (pw_p (pu_0 h5))
/-- the greatest part of a salvo -/
theorem pe_gpart {p0 p1 p2 t a b : Nat} (hab : a < b) (hb : b < 36) (h2 : A 21 (36 * a + b) = Int32.ofNat p2) {sa sb : Nat} (ha' : A 15 a = Int32.ofNat sa) (hb' : A 15 b = Int32.ofNat sb) (ht : A 14 2 = Int32.ofNat t) (hs : sa + sb = p1 + 2 * p2) (hn : t = p0 + p1 + p2) (hl : t ≤ 10000) (hx : x = Int32.ofNat a) (hy : y = Int32.ofNat b) : pe N X 118 [.ref 20, .ref 14, .int x, .int y] (ev_hp A J R T) (fun r h => r = some (.int (Int32.ofNat (max p2 (max p1 p0)))) ∧ h = ev_hp A J R T) := by
  subst hx hy
  refine pe_of (pw_p (pg_0 ⟨?_, rfl⟩))
  have e1 : (36 : Int32) * Int32.ofNat a + Int32.ofNat b = Int32.ofNat (36 * a + b) := by
    rw [show (36 : Int32) * Int32.ofNat a = Int32.ofNat (36 * a) from io_mul 36 a, io_add]
  rw [e1, at_in (show 36 * a + b < 1296 by omega) (by decide), at_in (show a < 36 by omega) (by decide), at_in hb (by decide), h2, ha', hb', ht, io_add, hs]
  have e2 : Int32.ofNat (p1 + 2 * p2) - (2 : Int32) * Int32.ofNat p2 = Int32.ofNat p1 := by
    rw [show (2 : Int32) * Int32.ofNat p2 = Int32.ofNat (2 * p2) from io_mul 2 p2, Int32.ofNat_add, Int32.add_sub_cancel]
  have e3 : Int32.ofNat t - Int32.ofNat (p1 + 2 * p2) + Int32.ofNat p2 = Int32.ofNat p0 := io_swp (by
    rw [io_add, io_add]
    congr 1
    omega)
  rw [e2, e3, io_max (by omega) (by omega), io_max (by omega) (by omega)]
/-- the search among the pairs -/
noncomputable def psI (t : Nat) (s : Nat × Nat × Nat) (F : Nat → Int32) : Prop := F 6 = Int32.ofNat s.2.2 ∧ (s.2.2 ≤ t → F 4 = Int32.ofNat s.1 ∧ F 5 = Int32.ofNat s.2.1)
noncomputable def bsQ (I : Nat → Nat → Int32) (J : Nat → Nat → Int64) (R : Nat → Nat) (T : List ez_C) (s : Nat × Nat × Nat) : pw_Q := fun r h => r = none ∧ ∃ A, h = ev_hp A J R T ∧ ot I A ∧ A 20 3 = 1 ∧ A 20 4 = Int32.ofNat s.1 ∧ A 20 5 = Int32.ofNat s.2.1 ∧ A 20 6 = Int32.ofNat s.2.2
theorem pe_pairs3 {lk : Nat → Bool} {P : Nat → Nat → Bool} {c : Nat} (e63 : I 6 3 = Int32.ofNat l) (hl : l ≤ n) (hn : n ≤ 10000) (r1 : rowJ (R 1) T n g1) (r2 : rowJ (R 2) T n g2) (hb : 0 ≤ (I 2 2).toInt ∧ (I 2 2).toInt ≤ 2) (ho : ∀ k, k < l → onp 36 (g2 k)) (hlk : ∀ k, k < l → lfB I J (g1 k) = lk k) (hP : ∀ k, k < l → ∀ c, kb (g2 k) c = P k c) (h14 : I 14 2 = Int32.ofNat (cq lk l)) (h15 : ∀ c, c < 36 → I 15 c = Int32.ofNat (cq (fun k => lk k && P k c) l)) (hc : 2 ≤ c ∧ c ≤ 36) (hx : x = Int32.ofNat c) (hk : I 20 3 = 0 ∨ (I 20 3 = 1 ∧ I 20 4 = Int32.ofNat (psA (gB lk P l) c c (0, 1, cq lk l + 1)).1 ∧ I 20 5 = Int32.ofNat (psA (gB lk P l) c c (0, 1, cq lk l + 1)).2.1 ∧ I 20 6 = Int32.ofNat (psA (gB lk P l) c c (0, 1, cq lk l + 1)).2.2)) : pe N X 119 [.ref 20, .ref 14, .int x] (ev_hp I J R T) (bsQ I J R T (psA (gB lk P l) c c (0, 1, cq lk l + 1))) := by
  subst hx
  have hcl := cq_le lk l
  refine pe_of (pw_p (ps_0 ⟨fun _ => ⟨_, pe_countPairs3 e63 hl hn r1 r2 hb ho, ?_⟩, fun g => ?_⟩))
  rotate_left
  · obtain ⟨k1, k2, k3, k4⟩ := hk.resolve_left g
    exact ⟨rfl, I, rfl, fun _ _ _ => rfl, k1, k2, k3, k4⟩
  rintro r h ⟨rfl, F, rfl, hF⟩
  have hF2 : ∀ a b, a < b → b < 36 → F (36 * a + b) = Int32.ofNat (ptB lk P l a b 2) := fun a b hab hb => by
    rw [hF a b hab hb, ← ptB_2]
    exact congrArg Int32.ofNat (cq_c _ fun k hk => by rw [hlk k hk, hP k hk, hP k hk])
  have hgp : ∀ (G : Nat → Int32) a b, a < b → b < 36 → ∀ N, pe N X 118 [.ref 20, .ref 14, .int (Int32.ofNat a), .int (Int32.ofNat b)] (ev_hp (ev_sI (ev_sI I 21 F) 20 G) J R T) (fun r h => r = some (.int (Int32.ofNat (gB lk P l a b))) ∧ h = ev_hp (ev_sI (ev_sI I 21 F) 20 G) J R T) := fun G a b hab hb N =>
    pe_gpart (p0 := ptB lk P l a b 0) (p1 := ptB lk P l a b 1) (p2 := ptB lk P l a b 2) (t := cq lk l) hab hb (by rw [cx_sI_n _ _ (show (21 : Nat) ≠ 20 by decide), cx_sI_s]; exact hF2 a b hab hb) (by rw [cx_sI_n _ _ (show (15 : Nat) ≠ 20 by decide), cx_sI_n _ _ (show (15 : Nat) ≠ 21 by decide)]; exact h15 a (by omega)) (by rw [cx_sI_n _ _ (show (15 : Nat) ≠ 20 by decide), cx_sI_n _ _ (show (15 : Nat) ≠ 21 by decide)]; exact h15 b hb) (by rw [cx_sI_n _ _ (show (14 : Nat) ≠ 20 by decide), cx_sI_n _ _ (show (14 : Nat) ≠ 21 by decide)]; exact h14) (ptB_s lk P l a b) (ptB_n lk P l a b) (by omega) rfl rfl
  have inner : ∀ (a : Nat), a < c → ∀ s0, s0.2.2 ≤ cq lk l + 1 → (∀ G, psI (cq lk l) (psB (gB lk P l) a (c - (a + 1)) s0) G → ∀ N, pw N X 119 24 [.ref 20, .ref 14, .int (Int32.ofNat c), .int (Int32.ofNat (a + 1))] [] (ev_hp (ev_sI (ev_sI I 21 F) 20 G) J R T) (bsQ I J R T (psA (gB lk P l) c c (0, 1, cq lk l + 1)))) → ∀ (e d : Nat), d + e = c - (a + 1) → ∀ G, psI (cq lk l) (psB (gB lk P l) a d s0) G → ∀ N, pw N X 119 34 [.ref 20, .ref 14, .int (Int32.ofNat c), .int (Int32.ofNat a), .int (Int32.ofNat (a + 1 + d))] [] (ev_hp (ev_sI (ev_sI I 21 F) 20 G) J R T) (bsQ I J R T (psA (gB lk P l) c c (0, 1, cq lk l + 1))) := by
    intro a hac s0 hs0 go e
    induction e with
    | zero =>
      intro d hd G hG N
      obtain rfl : d = c - (a + 1) := by omega
      refine pw_p (ps_34 ⟨fun _ => ?_, fun g => absurd ((io_le (by omega) (by omega)).mpr (by omega)) g⟩)
      rw [io_1]
      exact go G hG _
    | succ e ih =>
      intro d hde G hG N
      have hgl := gB_le lk P l a (a + 1 + d)
      have hsl := psB_le (gB lk P l) a d s0
      have h5 := fun G h N => ih (d + 1) (by omega) G h N
      have e1 : psB (gB lk P l) a (d + 1) s0 = if gB lk P l a (a + 1 + d) < (psB (gB lk P l) a d s0).2.2 then (a, a + 1 + d, gB lk P l a (a + 1 + d)) else psB (gB lk P l) a d s0 := rfl
      rw [e1] at h5
      refine pw_p (ps_34 ⟨fun g => ?_, fun _ => ⟨_, hgp G a (a + 1 + d) (by omega) (by omega) _, ?_⟩⟩)
      · rw [io_le (by omega) (by omega)] at g
        omega
      rintro r h ⟨rfl, rfl⟩
      refine pw_p (ps_48 ?_)
      rw [cx_sI_s, hG.1, io_le (by omega) (by omega), io_1]
      refine ⟨fun g => ?_, fun g => ?_⟩
      · rw [if_neg (by omega)] at h5
        exact h5 G hG _
      · rw [if_pos (by omega)] at h5
        rw [sI2, sI2, sI2]
        refine h5 _ ⟨?_, fun _ => ⟨?_, ?_⟩⟩ _
        · rw [upd_s]
        · rw [upd_n _ _ (by decide), upd_n _ _ (by decide), upd_s]
        · rw [upd_n _ _ (by decide), upd_s]
  have outer : ∀ (e a : Nat), a + e = c → ∀ G, psI (cq lk l) (psA (gB lk P l) c a (0, 1, cq lk l + 1)) G → ∀ N, pw N X 119 24 [.ref 20, .ref 14, .int (Int32.ofNat c), .int (Int32.ofNat a)] [] (ev_hp (ev_sI (ev_sI I 21 F) 20 G) J R T) (bsQ I J R T (psA (gB lk P l) c c (0, 1, cq lk l + 1))) := by
    intro e
    induction e with
    | zero =>
      intro a ha G hG N
      obtain rfl : a = c := by omega
      obtain ⟨k1, k2⟩ := hG
      obtain ⟨k3, k4⟩ := k2 (psA_one _ _ _ hc.1 (gB_le lk P l 0 1) a _ (by omega))
      refine pw_p (ps_24 ⟨fun _ => ⟨rfl, _, rfl, ot_20 (ot_20 (ot_21 (fun _ _ _ => rfl) _) _) _, ?_, ?_, ?_, ?_⟩, fun g => absurd (Int32.le_refl _) g⟩)
      · rw [cx_sI_s, upd_s]
      · rw [cx_sI_s, upd_n _ _ (by decide), cx_sI_s]
        exact k3
      · rw [cx_sI_s, upd_n _ _ (by decide), cx_sI_s]
        exact k4
      · rw [cx_sI_s, upd_n _ _ (by decide), cx_sI_s]
        exact k1
    | succ e ih =>
      intro a hae G hG N
      refine pw_p (ps_24 ⟨fun g => ?_, fun _ => ?_⟩)
      · rw [io_le (by omega) (by omega)] at g
        omega
      rw [io_1]
      exact inner a (by omega) _ (psA_le _ _ _ _) (fun G hG N => ih (a + 1) (by omega) G hG N) (c - (a + 1)) 0 (by omega) G hG _
  refine pw_p (ps_12 ?_)
  rw [cx_sI_n _ _ (show (14 : Nat) ≠ 21 by decide), h14, io_1]
  refine outer c 0 (by omega) _ ⟨?_, fun g => ?_⟩ _
  · rw [upd_s]
    rfl
  · have g : cq lk l + 1 ≤ cq lk l := g
    omega
end
section
variable {N : Nat} {X : ez_X} {I A : Nat → Nat → Int32} {J B : Nat → Nat → Int64} {R : Nat → Nat} {T : List ez_C} {x : Int32}
/-- the salvo that parts best -/
noncomputable def psF (I : Nat → Nat → Int32) (J : Nat → Nat → Int64) : Nat × Nat × Nat := psA (gB (lkf I J) (fun k c => kb (xp I J ((ls I J).getD k (0, 0, 0)) (nca I)) c) (ls I J).length) (I 1 6).toInt.toNat (I 1 6).toInt.toNat (0, 1, tN I J + 1)
noncomputable def d5 (I : Nat → Nat → Int32) (J : Nat → Nat → Int64) : Prop := I 20 3 = 0 ∨ (I 20 3 = 1 ∧ I 20 4 = Int32.ofNat (psF I J).1 ∧ I 20 5 = Int32.ofNat (psF I J).2.1 ∧ I 20 6 = Int32.ofNat (psF I J).2.2)
noncomputable def v_bestSalvo (I : Nat → Nat → Int32) (J : Nat → Nat → Int64) (x : Int32) : Int32 := if ev_wi x 0 2 = 0 then -3 else if sn I 0 * (sn I 1 * sn I 2) ≤ 10000 then (if Int32.ofNat (tN I J) = 0 then -1 else if x = 0 then Int32.ofNat (psF I J).1 else if x = 1 then Int32.ofNat (psF I J).2.1 else Int32.ofNat (psF I J).2.2) else -6
theorem psF_b (e : b4 A B = b4 I J) (e22 : A 2 2 = I 2 2) (e82 : B 8 2 = J 8 2) (e83 : B 8 3 = J 8 3) : psF A B = psF I J := by
  obtain ⟨l1, l2, l3, l4, l5, l6⟩ := b4_use e
  have e16 : A 1 6 = I 1 6 := by
    unfold b4 at e
    simp only [Prod.mk.injEq] at e
    exact e.2.2.2.2.2.2.2.2.2.2.2.2.1
  have hl : ∀ u, lfB A B u = lfB I J u := fun u => by
    unfold lfB
    rw [e22, e82, e83]
  have hk : lkf A B = lkf I J := funext fun k => by
    unfold lkf
    rw [l1, l2, l4, hl]
  have hn : tN A B = tN I J := by
    unfold tN
    rw [hk, l1]
  have hp : (fun k c => kb (xp A B ((ls A B).getD k (0, 0, 0)) (nca A)) c) = fun k c => kb (xp I J ((ls I J).getD k (0, 0, 0)) (nca I)) c := funext fun k => funext fun c => by
    rw [l1, l2, l5]
  unfold psF
  rw [hk, hn, hp, l1, e16]
theorem d5_b (e : b4 A B = b4 I J) (e22 : A 2 2 = I 2 2) (e82 : B 8 2 = J 8 2) (e83 : B 8 3 = J 8 3) (h3 : A 20 3 = I 20 3) (h4 : A 20 4 = I 20 4) (h5 : A 20 5 = I 20 5) (h6 : A 20 6 = I 20 6) (h : d5 I J) : d5 A B := by
  unfold d5
  rw [h3, h4, h5, h6, psF_b e e22 e82 e83]
  exact h
noncomputable def F5 (h : ez_H) : Prop := ∃ A B R' T', h = ev_hp A B R' T' ∧ d5 A B
theorem rq_d5 {R' : Nat → Nat} {T' : List ez_C} (h : rq_Q I J (ls I J) (nca I) A B R' T') (hd : d5 I J) : d5 A B := by
  have h0 := h
  obtain ⟨a1, a2, a3, a4, -⟩ := h
  obtain ⟨b1, b2, b3, b4⟩ := b4_bk (rq_b4 h0)
  exact d5_b b1 b2 b3 b4 (by rw [a1 20 (by decide) (by decide) (by decide) (by decide) (by decide)]) (by rw [a1 20 (by decide) (by decide) (by decide) (by decide) (by decide)]) (by rw [a1 20 (by decide) (by decide) (by decide) (by decide) (by decide)]) (by rw [a1 20 (by decide) (by decide) (by decide) (by decide) (by decide)]) hd
theorem pe_xbestSalvo3 (h : rl3 I J R T) (hd : d4 I J R T) (hd5 : d5 I J) (hh : cx_hok cx_B0 I R T) : pe N X 7 [.ref 0, .int x] (ev_hp I J R T) (fun r h => r = some (.int (v_bestSalvo I J x)) ∧ F5 h) := by
  obtain ⟨m, en, hm4, hn⟩ := b_16 hh.1
  refine pe_of (pw_p (xo_bestSalvo ⟨fun hx => ⟨_, pe_tm h.1.1 hh h.1.2, ?_⟩, fun hx => ⟨?_, I, J, R, T, rfl, hd5⟩⟩))
  rotate_left
  · unfold v_bestSalvo
    rw [if_pos (Classical.not_not.mp hx)]
  rintro r h' (⟨h1, rfl, rfl⟩ | ⟨h1, rfl, h2⟩)
  · refine pw_p (bv_16 ⟨fun z => absurd z (by decide), fun _ => ⟨?_, I, J, R, T, rfl, hd5⟩⟩)
    unfold v_bestSalvo
    rw [if_neg hx, if_neg (by omega)]
  · have hl := fun N => pe_lt (X := X) h hd hh h2 N
    obtain ⟨f6, R6, T6, rfl, -⟩ := h2
    refine pw_p (bv_16 ⟨fun _ => ⟨_, hl _, ?_⟩, fun z => absurd rfl z⟩)
    rintro r h' ⟨rfl, A, B, R', T', rfl, hq, ht⟩
    have hq0 := hq
    have hd5' := rq_d5 hq hd5
    have hpsF : psF A B = psF I J := by
      obtain ⟨b1, b2, b3, b4⟩ := b4_bk (rq_b4 hq0)
      exact psF_b b1 b2 b3 b4
    obtain ⟨a1, a2, a3, a4, a5, a6, n, g1, g2, g3, r1, r2, r3, r4, r5, r6⟩ := hq
    have e2 : A 2 = I 2 := a1 2 (by decide) (by decide) (by decide) (by decide) (by decide)
    have e16 : A 1 6 = Int32.ofNat m := by
      rw [a1 1 (by decide) (by decide) (by decide) (by decide) (by decide)]
      exact en
    have enm : (I 1 6).toInt.toNat = m := by
      rw [en, io_ti (by omega)]
      exact Int.toNat_natCast m
    have eg : ∀ k, k < (ls I J).length → g1 k = xz I J ((ls I J).getD k (0, 0, 0)) (nca I) ∧ g2 k = xp I J ((ls I J).getD k (0, 0, 0)) (nca I) := fun k hk => by
      rw [ly_gd hk]
      exact ⟨(r6 k hk).1, (r6 k hk).2.1⟩
    have hlf : ∀ u, lfB A B u = lfB I J u := fun u => by
      unfold lfB
      rw [e2, a4 8 (by decide) (by decide)]
    have hps : psA (gB (lkf I J) (fun k c => kb (xp I J ((ls I J).getD k (0, 0, 0)) (nca I)) c) (ls I J).length) m m (0, 1, cq (lkf I J) (ls I J).length + 1) = psF I J := by
      unfold psF
      rw [enm]
      rfl
    refine pw_p (bv_26 ?_)
    rw [(tal_at ht).1]
    refine ⟨fun g => ⟨_, pe_pairs3 (lk := lkf I J) (P := fun k c => kb (xp I J ((ls I J).getD k (0, 0, 0)) (nca I)) c) (c := m) a2 r4 r5 r1 r2 (by rw [e2]; exact b_lie hh.1) (fun k hk => ?_) (fun k hk => ?_) (fun k hk c => ?_) (tal_at ht).1 (fun c hc => ((tal_at ht).2 c hc).1) ⟨by omega, hn⟩ e16 ?_, ?_⟩, fun g => ⟨?_, A, B, R', T', rfl, hd5'⟩⟩
    · rw [(eg k hk).2, ly_gd hk]
      exact (xps_on h hh.1 (List.getElem_mem hk) _).1
    · rw [hlf, (eg k hk).1]
      rfl
    · rw [(eg k hk).2]
    · rw [hps, ← hpsF]
      exact hd5'
    · rw [hps]
      rintro r h' ⟨rfl, A', rfl, hA', k3, k4, k5, k6⟩
      have hd5'' : d5 A' B := by
        have e8 : A' 8 = A 8 := hA' 8 (by decide) (by decide)
        have e : b4 A' B = b4 A B := by
          unfold b4
          rw [hA' 8 (by decide) (by decide), hA' 3 (by decide) (by decide), hA' 5 (by decide) (by decide), hA' 2 (by decide) (by decide), hA' 1 (by decide) (by decide)]
        have hpf : psF A' B = psF A B := psF_b e (by rw [hA' 2 (by decide) (by decide)]) rfl rfl
        exact Or.inr ⟨k3, by rw [hpf, hpsF]; exact k4, by rw [hpf, hpsF]; exact k5, by rw [hpf, hpsF]; exact k6⟩
      have hF : F5 (ev_hp A' B R' T') := ⟨A', B, R', T', rfl, hd5''⟩
      have hv : v_bestSalvo I J x = if x = 0 then Int32.ofNat (psF I J).1 else if x = 1 then Int32.ofNat (psF I J).2.1 else Int32.ofNat (psF I J).2.2 := by
        unfold v_bestSalvo
        rw [if_neg hx, if_pos h1, if_neg g]
      rw [hv]
      refine pw_p (bv_51 ⟨fun x0 => ⟨fun x1 => ⟨?_, hF⟩, fun x1 => ⟨?_, hF⟩⟩, fun x0 => ⟨?_, hF⟩⟩)
      · rw [if_neg x0, if_neg x1, k6]
      · rw [if_neg x0, if_pos (Classical.not_not.mp x1), k5]
      · rw [if_pos (Classical.not_not.mp x0), k4]
    · unfold v_bestSalvo
      rw [if_neg hx, if_pos h1, if_pos (Classical.not_not.mp g)]
end
end
section
/-! The reference: bestSalvo. -/
section
variable {N : Nat} {X : ez_X} {I : Nat → Nat → Int32} {J : Nat → Nat → Int64} {R : Nat → Nat} {T : List ez_C} {Q : pw_Q} {cz kz : Nat}
set_option maxRecDepth 100000 in
theorem cw9_r0 {a0 : Int32} {a1 : Int32} : ∀ G : ez_F, fx_up X 4 G 194 0 [.ref 35, .int a0, .int a1] [] (ev_hp I J R T) cz kz = G 194 6 [.ref 35, .int a0, .int a1] [.int (0 : Int32), .int (0 : Int32), .ref 53] (ev_hp I J R T) cz kz := by
  intro G
  rfl
set_option maxRecDepth 100000 in
theorem cw9_r1 {a0 : Int32} {a1 : Int32} : ∀ G : ez_F, fx_up X 4 G 194 7 [.ref 35, .int a0, .int a1] [] (ev_hp I J R T) cz kz = G 194 13 [.ref 35, .int a0, .int a1] [.int (0 : Int32), .int (1 : Int32), .ref 53] (ev_hp I J R T) cz kz := by
  intro G
  rfl
set_option maxRecDepth 100000 in
theorem cw9_r2 {a0 : Int32} {a1 : Int32} : ∀ G : ez_F, fx_up X 4 G 194 14 [.ref 35, .int a0, .int a1] [] (ev_hp I J R T) cz kz = G 194 20 [.ref 35, .int a0, .int a1] [.int (0 : Int32), .int (2 : Int32), .ref 53] (ev_hp I J R T) cz kz := by
  intro G
  rfl
set_option maxRecDepth 100000 in
theorem cw9_r3 {a0 : Int32} {a1 : Int32} : ∀ G : ez_F, fx_up X 2 G 194 21 [.ref 35, .int a0, .int a1] [] (ev_hp I J R T) cz kz = G 194 23 [.ref 35, .int a0, .int a1, .int (0 : Int32)] [] (ev_hp I J R T) cz kz := by
  intro G
  rfl
theorem gt9_0 {a b : Int32}
    (H : (ev_ix (0 : Int32) 4 → (ev_ix (1 : Int32) 4 → (ev_ix (2 : Int32) 4 → pw N X 194 23 [.ref 35, .int a, .int b, .int (0 : Int32)] [] (ev_hp (ev_sI (ev_sI (ev_sI I 53 (upd (I 53) ((0 : Int32).toNatClampNeg) (0 : Int32))) 53 (upd (upd (I 53) ((0 : Int32).toNatClampNeg) (0 : Int32)) ((1 : Int32).toNatClampNeg) (0 : Int32))) 53 (upd (upd (upd (I 53) ((0 : Int32).toNatClampNeg) (0 : Int32)) ((1 : Int32).toNatClampNeg) (0 : Int32)) ((2 : Int32).toNatClampNeg) (0 : Int32))) J R T) Q)))) : pw (N + 1) X 194 0 [.ref 35, .int a, .int b] [] (ev_hp I J R T) Q := by
  refine pw_seg (by decide) (fun _ _ => cw9_r0) ?_
  refine pw_p (pw_iast (by rfl) (cx_getI (show cx_Ds[53]? = some (0, 4, []) from rfl)) (cx_setI (show cx_Ds[53]? = some (0, 4, []) from rfl) _) (fun w1 => ?_))
  have h1 := H w1
  refine pw_p (pw_seg (by decide) (fun _ _ => cw9_r1) ?_)
  refine pw_p (pw_iast (by rfl) (cx_getI (show cx_Ds[53]? = some (0, 4, []) from rfl)) (cx_setI (show cx_Ds[53]? = some (0, 4, []) from rfl) _) (fun w1 => ?_))
  have h1 := h1 w1
  refine pw_p (pw_seg (by decide) (fun _ _ => cw9_r2) ?_)
  refine pw_p (pw_iast (by rfl) (cx_getI (show cx_Ds[53]? = some (0, 4, []) from rfl)) (cx_setI (show cx_Ds[53]? = some (0, 4, []) from rfl) _) (fun w1 => ?_))
  have h1 := h1 w1
  refine pw_p (pw_seg (by decide) (fun _ _ => cw9_r3) ?_)
  exact h1
set_option maxRecDepth 100000 in
theorem cw9_r4 {a0 : Int32} {a1 : Int32} {a2 : Int32} : ∀ G : ez_F, fx_up X 3 G 194 23 [.ref 35, .int a0, .int a1, .int a2] [] (ev_hp I J R T) cz kz = G 194 28 [.ref 35, .int a0, .int a1, .int a2] [.int (I 35 24), .int a2] (ev_hp I J R T) cz kz := by
  intro G
  rfl
set_option maxRecDepth 100000 in
theorem cw9_r5 {a0 : Int32} {a1 : Int32} {a2 : Int32} {a3 : Int32} {a4 : Int32} : ∀ G : ez_F, fx_up X 1 G 194 28 [.ref 35, .int a0, .int a1, .int a2] [.int a3, .int a4] (ev_hp I J R T) cz kz = bif decide (a3 ≤ a4) then G 194 68 [.ref 35, .int a0, .int a1, .int a2] [] (ev_hp I J R T) cz kz else G 194 31 [.ref 35, .int a0, .int a1, .int a2] [] (ev_hp I J R T) cz kz := by
  intro G
  rfl
set_option maxRecDepth 100000 in
theorem cw9_r6 {a0 : Int32} {a1 : Int32} {a2 : Int32} : ∀ G : ez_F, fx_up X 5 G 194 31 [.ref 35, .int a0, .int a1, .int a2] [] (ev_hp I J R T) cz kz = G 194 40 [.ref 35, .int a0, .int a1, .int a2] [.int a2, .ref 52, .ref 53] (ev_hp I J R T) cz kz := by
  intro G
  rfl
set_option maxRecDepth 100000 in
theorem cw9_r7 {a0 : Int32} {a1 : Int32} {a2 : Int32} {a3 : Int64} : ∀ G : ez_F, fx_up X 7 G 194 41 [.ref 35, .int a0, .int a1, .int a2] [.long a3, .ref 53] (ev_hp I J R T) cz kz = G 194 50 [.ref 35, .int a0, .int a1, .int a2] [.int a2, .ref 52, .long ((a3 >>> (a0.toInt64 &&& (63 : Int64))) &&& (1 : Int64)), .ref 53] (ev_hp I J R T) cz kz := by
  intro G
  rfl
set_option maxRecDepth 100000 in
theorem cw9_r8 {a0 : Int32} {a1 : Int32} {a2 : Int32} {a3 : Int64} {a4 : Int64} : ∀ G : ez_F, fx_up X 7 G 194 51 [.ref 35, .int a0, .int a1, .int a2] [.long a3, .long a4, .ref 53] (ev_hp I J R T) cz kz = G 194 58 [.ref 35, .int a0, .int a1, .int a2] [.int (a4 + ((a3 >>> (a1.toInt64 &&& (63 : Int64))) &&& (1 : Int64))).toInt32, .ref 53, .int (a4 + ((a3 >>> (a1.toInt64 &&& (63 : Int64))) &&& (1 : Int64))).toInt32, .ref 53] (ev_hp I J R T) cz kz := by
  intro G
  rfl
set_option maxRecDepth 100000 in
theorem cw9_r9 {a0 : Int32} {a1 : Int32} {a2 : Int32} {a3 : Int32} {a4 : Int32} : ∀ G : ez_F, fx_up X 2 G 194 59 [.ref 35, .int a0, .int a1, .int a2] [.int a3, .int a4, .ref 53] (ev_hp I J R T) cz kz = G 194 61 [.ref 35, .int a0, .int a1, .int a2] [.int (a3 + (1 : Int32)), .int a4, .ref 53] (ev_hp I J R T) cz kz := by
  intro G
  rfl
set_option maxRecDepth 100000 in
theorem cw9_r10 {a0 : Int32} {a1 : Int32} {a2 : Int32} : ∀ G : ez_F, fx_up X 2 G 194 62 [.ref 35, .int a0, .int a1, .int a2] [] (ev_hp I J R T) cz kz = G 194 23 [.ref 35, .int a0, .int a1, .int (a2 + (1 : Int32))] [] (ev_hp I J R T) cz kz := by
  intro G
  rfl
theorem gt9_23 {a b i : Int32}
    (H : (((I 35 24) ≤ i → pw N X 194 68 [.ref 35, .int a, .int b, .int i] [] (ev_hp I J R T) Q) ∧ (¬ ((I 35 24) ≤ i) → (ev_ix i 10001 → (ev_ix i 10001 → (ev_ix (((((J 52 i.toNatClampNeg) >>> (a.toInt64 &&& (63 : Int64))) &&& (1 : Int64)) + (((J 52 i.toNatClampNeg) >>> (b.toInt64 &&& (63 : Int64))) &&& (1 : Int64))).toInt32) 4 → (ev_ix (((((J 52 i.toNatClampNeg) >>> (a.toInt64 &&& (63 : Int64))) &&& (1 : Int64)) + (((J 52 i.toNatClampNeg) >>> (b.toInt64 &&& (63 : Int64))) &&& (1 : Int64))).toInt32) 4 → pw N X 194 23 [.ref 35, .int a, .int b, .int (i + (1 : Int32))] [] (ev_hp (ev_sI I 53 (upd (I 53) ((((((J 52 i.toNatClampNeg) >>> (a.toInt64 &&& (63 : Int64))) &&& (1 : Int64)) + (((J 52 i.toNatClampNeg) >>> (b.toInt64 &&& (63 : Int64))) &&& (1 : Int64))).toInt32).toNatClampNeg) ((I 53 (((((J 52 i.toNatClampNeg) >>> (a.toInt64 &&& (63 : Int64))) &&& (1 : Int64)) + (((J 52 i.toNatClampNeg) >>> (b.toInt64 &&& (63 : Int64))) &&& (1 : Int64))).toInt32).toNatClampNeg) + (1 : Int32)))) J R T) Q))))))) : pw (N + 1) X 194 23 [.ref 35, .int a, .int b, .int i] [] (ev_hp I J R T) Q := by
  refine pw_seg (by decide) (fun _ _ => cw9_r4) ?_
  refine pw_p (pw_if (by decide) (fun _ _ => cw9_r5) (fun w1 => ?_) (fun w1 => ?_))
  · have h1 := H.1 w1
    exact h1
  · have h1 := H.2 w1
    refine pw_p (pw_seg (by decide) (fun _ _ => cw9_r6) ?_)
    refine pw_p (pw_lald (by rfl) (cx_getJ (show cx_Ds[52]? = some (1, 10001, []) from rfl)) (fun w2 => ?_))
    have h2 := h1 w2
    refine pw_p (pw_seg (by decide) (fun _ _ => cw9_r7) ?_)
    refine pw_p (pw_lald (by rfl) (cx_getJ (show cx_Ds[52]? = some (1, 10001, []) from rfl)) (fun w2 => ?_))
    have h2 := h2 w2
    refine pw_p (pw_seg (by decide) (fun _ _ => cw9_r8) ?_)
    refine pw_p (pw_iald (by rfl) (cx_getI (show cx_Ds[53]? = some (0, 4, []) from rfl)) (fun w2 => ?_))
    have h2 := h2 w2
    refine pw_p (pw_seg (by decide) (fun _ _ => cw9_r9) ?_)
    refine pw_p (pw_iast (by rfl) (cx_getI (show cx_Ds[53]? = some (0, 4, []) from rfl)) (cx_setI (show cx_Ds[53]? = some (0, 4, []) from rfl) _) (fun w2 => ?_))
    have h2 := h2 w2
    refine pw_p (pw_seg (by decide) (fun _ _ => cw9_r10) ?_)
    exact h2
set_option maxRecDepth 100000 in
theorem cw9_r11 {a0 : Int32} {a1 : Int32} {a2 : Int32} : ∀ G : ez_F, fx_up X 3 G 194 68 [.ref 35, .int a0, .int a1, .int a2] [] (ev_hp I J R T) cz kz = G 194 73 [.ref 35, .int a0, .int a1, .int a2] [.int (0 : Int32), .ref 53] (ev_hp I J R T) cz kz := by
  intro G
  rfl
set_option maxRecDepth 100000 in
theorem cw9_r12 {a0 : Int32} {a1 : Int32} {a2 : Int32} {a3 : Int32} : ∀ G : ez_F, fx_up X 3 G 194 74 [.ref 35, .int a0, .int a1, .int a2] [.int a3] (ev_hp I J R T) cz kz = G 194 79 [.ref 35, .int a0, .int a1, .int a2] [.int (1 : Int32), .ref 53, .int a3] (ev_hp I J R T) cz kz := by
  intro G
  rfl
set_option maxRecDepth 100000 in
theorem cw9_r13 {a0 : Int32} {a1 : Int32} {a2 : Int32} {a3 : Int32} {a4 : Int32} : ∀ G : ez_F, fx_up X 1 G 194 80 [.ref 35, .int a0, .int a1, .int a2] [.int a3, .int a4] (ev_hp I J R T) cz kz = bif decide (a4 ≤ a3) then G 194 92 [.ref 35, .int a0, .int a1, .int a2] [] (ev_hp I J R T) cz kz else G 194 83 [.ref 35, .int a0, .int a1, .int a2] [] (ev_hp I J R T) cz kz := by
  intro G
  rfl
set_option maxRecDepth 100000 in
theorem cw9_r14 {a0 : Int32} {a1 : Int32} {a2 : Int32} : ∀ G : ez_F, fx_up X 3 G 194 92 [.ref 35, .int a0, .int a1, .int a2] [] (ev_hp I J R T) cz kz = G 194 97 [.ref 35, .int a0, .int a1, .int a2] [.int (1 : Int32), .ref 53] (ev_hp I J R T) cz kz := by
  intro G
  rfl
set_option maxRecDepth 100000 in
theorem cw9_r15 {a0 : Int32} {a1 : Int32} {a2 : Int32} {a3 : Int32} : ∀ G : ez_F, fx_up X 4 G 194 98 [.ref 35, .int a0, .int a1, .int a2] [.int a3] (ev_hp I J R T) cz kz = G 194 104 [.ref 35, .int a0, .int a1, .int a3] [.int (2 : Int32), .ref 53] (ev_hp I J R T) cz kz := by
  intro G
  rfl
set_option maxRecDepth 100000 in
theorem cw9_r16 {a0 : Int32} {a1 : Int32} {a2 : Int32} {a3 : Int32} : ∀ G : ez_F, fx_up X 2 G 194 105 [.ref 35, .int a0, .int a1, .int a2] [.int a3] (ev_hp I J R T) cz kz = bif decide (a3 ≤ a2) then G 194 118 [.ref 35, .int a0, .int a1, .int a2] [] (ev_hp I J R T) cz kz else G 194 109 [.ref 35, .int a0, .int a1, .int a2] [] (ev_hp I J R T) cz kz := by
  intro G
  rfl
set_option maxRecDepth 100000 in
theorem cw9_r17 {a0 : Int32} {a1 : Int32} {a2 : Int32} : ∀ G : ez_F, fx_up X 2 G 194 118 [.ref 35, .int a0, .int a1, .int a2] [] (ev_hp I J R T) cz kz = some (some (.int a2), (ev_hp I J R T), cz, kz) := by
  intro G
  rfl
set_option maxRecDepth 100000 in
theorem cw9_r18 {a0 : Int32} {a1 : Int32} {a2 : Int32} : ∀ G : ez_F, fx_up X 3 G 194 109 [.ref 35, .int a0, .int a1, .int a2] [] (ev_hp I J R T) cz kz = G 194 114 [.ref 35, .int a0, .int a1, .int a2] [.int (2 : Int32), .ref 53] (ev_hp I J R T) cz kz := by
  intro G
  rfl
set_option maxRecDepth 100000 in
theorem cw9_r19 {a0 : Int32} {a1 : Int32} {a2 : Int32} {a3 : Int32} : ∀ G : ez_F, fx_up X 2 G 194 115 [.ref 35, .int a0, .int a1, .int a2] [.int a3] (ev_hp I J R T) cz kz = some (some (.int a3), (ev_hp I J R T), cz, kz) := by
  intro G
  rfl
set_option maxRecDepth 100000 in
theorem cw9_r20 {a0 : Int32} {a1 : Int32} {a2 : Int32} : ∀ G : ez_F, fx_up X 3 G 194 83 [.ref 35, .int a0, .int a1, .int a2] [] (ev_hp I J R T) cz kz = G 194 88 [.ref 35, .int a0, .int a1, .int a2] [.int (0 : Int32), .ref 53] (ev_hp I J R T) cz kz := by
  intro G
  rfl
set_option maxRecDepth 100000 in
theorem cw9_r21 {a0 : Int32} {a1 : Int32} {a2 : Int32} {a3 : Int32} : ∀ G : ez_F, fx_up X 5 G 194 89 [.ref 35, .int a0, .int a1, .int a2] [.int a3] (ev_hp I J R T) cz kz = G 194 104 [.ref 35, .int a0, .int a1, .int a3] [.int (2 : Int32), .ref 53] (ev_hp I J R T) cz kz := by
  intro G
  rfl
theorem gt9_68 {a b i : Int32}
    (H : (ev_ix (0 : Int32) 4 → (ev_ix (1 : Int32) 4 → (((I 53 (0 : Int32).toNatClampNeg) ≤ (I 53 (1 : Int32).toNatClampNeg) → (ev_ix (1 : Int32) 4 → (ev_ix (2 : Int32) 4 → (((I 53 (2 : Int32).toNatClampNeg) ≤ (I 53 (1 : Int32).toNatClampNeg) → Q (some (.int (I 53 (1 : Int32).toNatClampNeg))) (ev_hp I J R T)) ∧ (¬ ((I 53 (2 : Int32).toNatClampNeg) ≤ (I 53 (1 : Int32).toNatClampNeg)) → (ev_ix (2 : Int32) 4 → Q (some (.int (I 53 (2 : Int32).toNatClampNeg))) (ev_hp I J R T))))))) ∧ (¬ ((I 53 (0 : Int32).toNatClampNeg) ≤ (I 53 (1 : Int32).toNatClampNeg)) → (ev_ix (0 : Int32) 4 → (ev_ix (2 : Int32) 4 → (((I 53 (2 : Int32).toNatClampNeg) ≤ (I 53 (0 : Int32).toNatClampNeg) → Q (some (.int (I 53 (0 : Int32).toNatClampNeg))) (ev_hp I J R T)) ∧ (¬ ((I 53 (2 : Int32).toNatClampNeg) ≤ (I 53 (0 : Int32).toNatClampNeg)) → (ev_ix (2 : Int32) 4 → Q (some (.int (I 53 (2 : Int32).toNatClampNeg))) (ev_hp I J R T))))))))))) : pw (N + 1) X 194 68 [.ref 35, .int a, .int b, .int i] [] (ev_hp I J R T) Q := by
  refine pw_seg (by decide) (fun _ _ => cw9_r11) ?_
  refine pw_p (pw_iald (by rfl) (cx_getI (show cx_Ds[53]? = some (0, 4, []) from rfl)) (fun w1 => ?_))
  have h1 := H w1
  refine pw_p (pw_seg (by decide) (fun _ _ => cw9_r12) ?_)
  refine pw_p (pw_iald (by rfl) (cx_getI (show cx_Ds[53]? = some (0, 4, []) from rfl)) (fun w1 => ?_))
  have h1 := h1 w1
  refine pw_p (pw_if (by decide) (fun _ _ => cw9_r13) (fun w1 => ?_) (fun w1 => ?_))
  · have h1 := h1.1 w1
    refine pw_p (pw_seg (by decide) (fun _ _ => cw9_r14) ?_)
    refine pw_p (pw_iald (by rfl) (cx_getI (show cx_Ds[53]? = some (0, 4, []) from rfl)) (fun w2 => ?_))
    have h2 := h1 w2
    refine pw_p (pw_seg (by decide) (fun _ _ => cw9_r15) ?_)
    refine pw_p (pw_iald (by rfl) (cx_getI (show cx_Ds[53]? = some (0, 4, []) from rfl)) (fun w2 => ?_))
    have h2 := h2 w2
    refine pw_p (pw_if (by decide) (fun _ _ => cw9_r16) (fun w2 => ?_) (fun w2 => ?_))
    · have h2 := h2.1 w2
      exact pw_p (pw_ret (by decide) (fun _ _ => cw9_r17) h2)
    · have h2 := h2.2 w2
      refine pw_p (pw_seg (by decide) (fun _ _ => cw9_r18) ?_)
      refine pw_p (pw_iald (by rfl) (cx_getI (show cx_Ds[53]? = some (0, 4, []) from rfl)) (fun w3 => ?_))
      have h3 := h2 w3
      exact pw_p (pw_ret (by decide) (fun _ _ => cw9_r19) h3)
  · have h1 := h1.2 w1
    refine pw_p (pw_seg (by decide) (fun _ _ => cw9_r20) ?_)
    refine pw_p (pw_iald (by rfl) (cx_getI (show cx_Ds[53]? = some (0, 4, []) from rfl)) (fun w2 => ?_))
    have h2 := h1 w2
    refine pw_p (pw_seg (by decide) (fun _ _ => cw9_r21) ?_)
    refine pw_p (pw_iald (by rfl) (cx_getI (show cx_Ds[53]? = some (0, 4, []) from rfl)) (fun w2 => ?_))
    have h2 := h2 w2
    refine pw_p (pw_if (by decide) (fun _ _ => cw9_r16) (fun w2 => ?_) (fun w2 => ?_))
    · have h2 := h2.1 w2
      exact pw_p (pw_ret (by decide) (fun _ _ => cw9_r17) h2)
    · have h2 := h2.2 w2
      refine pw_p (pw_seg (by decide) (fun _ _ => cw9_r18) ?_)
      refine pw_p (pw_iald (by rfl) (cx_getI (show cx_Ds[53]? = some (0, 4, []) from rfl)) (fun w3 => ?_))
      have h3 := h2 w3
      exact pw_p (pw_ret (by decide) (fun _ _ => cw9_r19) h3)
set_option maxRecDepth 100000 in
theorem cw9_r22 {a0 : Int32} : ∀ G : ez_F, fx_up X 5 G 170 0 [.ref 35, .int a0] [] (ev_hp I J R T) cz kz = ev_C G 198 [.long a0.toInt64, .long (0 : Int64), .long (2 : Int64)] (ev_hp I J R T) fun r h1 c1 k1 => G 170 9 [.ref 35, .int a0] (r.toList ++ []) h1 (cz + c1) (kz + k1) := by
  intro G
  rfl
set_option maxRecDepth 100000 in
theorem cw9_r23 {a0 : Int32} {a1 : Int32} : ∀ G : ez_F, fx_up X 1 G 170 9 [.ref 35, .int a0] [.int a1] (ev_hp I J R T) cz kz = bif decide (¬ a1 = (0 : Int32)) then G 170 15 [.ref 35, .int a0] [] (ev_hp I J R T) cz kz else G 170 12 [.ref 35, .int a0] [] (ev_hp I J R T) cz kz := by
  intro G
  rfl
set_option maxRecDepth 100000 in
theorem cw9_r24 {a0 : Int32} : ∀ G : ez_F, fx_up X 2 G 170 15 [.ref 35, .int a0] [] (ev_hp I J R T) cz kz = ev_C G 188 [.ref 35] (ev_hp I J R T) fun r h1 c1 k1 => G 170 19 [.ref 35, .int a0] (r.toList ++ []) h1 (cz + c1) (kz + k1) := by
  intro G
  rfl
set_option maxRecDepth 100000 in
theorem cw9_r25 {a0 : Int32} : ∀ G : ez_F, fx_up X 2 G 170 12 [.ref 35, .int a0] [] (ev_hp I J R T) cz kz = some (some (.int (-3 : Int32)), (ev_hp I J R T), cz, kz) := by
  intro G
  rfl
theorem bw9_0 {x : Int32}
    (H : ((¬ (ev_il x.toInt64 (0 : Int64) (2 : Int64)) = (0 : Int32) → (∃ Q1 : pw_Q, pe N X 188 [.ref 35] (ev_hp I J R T) Q1 ∧ ∀ (r : Option Value) (h1 : ez_H), Q1 r h1 → pw N X 170 19 [.ref 35, .int x] (r.toList ++ []) h1 Q)) ∧ (¬ (¬ (ev_il x.toInt64 (0 : Int64) (2 : Int64)) = (0 : Int32)) → Q (some (.int (-3 : Int32))) (ev_hp I J R T)))) : pw (N + 1) X 170 0 [.ref 35, .int x] [] (ev_hp I J R T) Q := by
  refine pw_callp (by decide) (fun _ _ => cw9_r22) (pe_is (ec_in _ _ _ _ _)) ?_
  refine pw_p (pw_if (by decide) (fun _ _ => cw9_r23) (fun w1 => ?_) (fun w1 => ?_))
  · have h1 := H.1 w1
    obtain ⟨Q1, hc, hk⟩ := h1
    exact pw_p (pw_call (by decide) (fun _ _ => cw9_r24) hc hk)
  · have h1 := H.2 w1
    exact pw_p (pw_ret (by decide) (fun _ _ => cw9_r25) h1)
set_option maxRecDepth 100000 in
theorem cw9_r26 {a0 : Int32} {a1 : Int32} : ∀ G : ez_F, fx_up X 1 G 170 19 [.ref 35, .int a0] [.int a1] (ev_hp I J R T) cz kz = bif decide (¬ a1 = (0 : Int32)) then G 170 25 [.ref 35, .int a0] [] (ev_hp I J R T) cz kz else G 170 22 [.ref 35, .int a0] [] (ev_hp I J R T) cz kz := by
  intro G
  rfl
set_option maxRecDepth 100000 in
theorem cw9_r27 {a0 : Int32} : ∀ G : ez_F, fx_up X 2 G 170 25 [.ref 35, .int a0] [] (ev_hp I J R T) cz kz = G 170 29 [.ref 35, .int a0] [.int (I 35 24)] (ev_hp I J R T) cz kz := by
  intro G
  rfl
set_option maxRecDepth 100000 in
theorem cw9_r28 {a0 : Int32} {a1 : Int32} : ∀ G : ez_F, fx_up X 1 G 170 29 [.ref 35, .int a0] [.int a1] (ev_hp I J R T) cz kz = bif decide (¬ a1 = (0 : Int32)) then G 170 34 [.ref 35, .int a0] [] (ev_hp I J R T) cz kz else G 170 32 [.ref 35, .int a0] [] (ev_hp I J R T) cz kz := by
  intro G
  rfl
set_option maxRecDepth 100000 in
theorem cw9_r29 {a0 : Int32} : ∀ G : ez_F, fx_up X 6 G 170 34 [.ref 35, .int a0] [] (ev_hp I J R T) cz kz = G 170 42 [.ref 35, .int a0, .int (0 : Int32), .int (1 : Int32)] [.int (I 35 24)] (ev_hp I J R T) cz kz := by
  intro G
  rfl
set_option maxRecDepth 100000 in
theorem cw9_r30 {a0 : Int32} {a1 : Int32} {a2 : Int32} {a3 : Int32} : ∀ G : ez_F, fx_up X 5 G 170 42 [.ref 35, .int a0, .int a1, .int a2] [.int a3] (ev_hp I J R T) cz kz = G 170 49 [.ref 35, .int a0, .int a1, .int a2, .int (a3 + (1 : Int32)), .int (0 : Int32)] [] (ev_hp I J R T) cz kz := by
  intro G
  rfl
set_option maxRecDepth 100000 in
theorem cw9_r31 {a0 : Int32} : ∀ G : ez_F, fx_up X 2 G 170 32 [.ref 35, .int a0] [] (ev_hp I J R T) cz kz = some (some (.int (-1 : Int32)), (ev_hp I J R T), cz, kz) := by
  intro G
  rfl
set_option maxRecDepth 100000 in
theorem cw9_r32 {a0 : Int32} : ∀ G : ez_F, fx_up X 2 G 170 22 [.ref 35, .int a0] [] (ev_hp I J R T) cz kz = some (some (.int (-6 : Int32)), (ev_hp I J R T), cz, kz) := by
  intro G
  rfl
theorem bw9_19 {x v : Int32}
    (H : ((¬ v = (0 : Int32) → ((¬ (I 35 24) = (0 : Int32) → pw N X 170 49 [.ref 35, .int x, .int (0 : Int32), .int (1 : Int32), .int ((I 35 24) + (1 : Int32)), .int (0 : Int32)] [] (ev_hp I J R T) Q) ∧ (¬ (¬ (I 35 24) = (0 : Int32)) → Q (some (.int (-1 : Int32))) (ev_hp I J R T)))) ∧ (¬ (¬ v = (0 : Int32)) → Q (some (.int (-6 : Int32))) (ev_hp I J R T)))) : pw (N + 1) X 170 19 [.ref 35, .int x] [.int v] (ev_hp I J R T) Q := by
  refine pw_if (by decide) (fun _ _ => cw9_r26) (fun w1 => ?_) (fun w1 => ?_)
  · have h1 := H.1 w1
    refine pw_p (pw_seg (by decide) (fun _ _ => cw9_r27) ?_)
    refine pw_p (pw_if (by decide) (fun _ _ => cw9_r28) (fun w2 => ?_) (fun w2 => ?_))
    · have h2 := h1.1 w2
      refine pw_p (pw_seg (by decide) (fun _ _ => cw9_r29) ?_)
      refine pw_p (pw_seg (by decide) (fun _ _ => cw9_r30) ?_)
      exact h2
    · have h2 := h1.2 w2
      exact pw_p (pw_ret (by decide) (fun _ _ => cw9_r31) h2)
  · have h1 := H.2 w1
    exact pw_p (pw_ret (by decide) (fun _ _ => cw9_r32) h1)
set_option maxRecDepth 100000 in
theorem cw9_r33 {a0 : Int32} {a1 : Int32} {a2 : Int32} {a3 : Int32} {a4 : Int32} : ∀ G : ez_F, fx_up X 3 G 170 49 [.ref 35, .int a0, .int a1, .int a2, .int a3, .int a4] [] (ev_hp I J R T) cz kz = G 170 55 [.ref 35, .int a0, .int a1, .int a2, .int a3, .int a4] [.int (I 35 24), .int a4] (ev_hp I J R T) cz kz := by
  intro G
  rfl
set_option maxRecDepth 100000 in
theorem cw9_r34 {a0 : Int32} {a1 : Int32} {a2 : Int32} {a3 : Int32} {a4 : Int32} {a5 : Int32} {a6 : Int32} : ∀ G : ez_F, fx_up X 1 G 170 55 [.ref 35, .int a0, .int a1, .int a2, .int a3, .int a4] [.int a5, .int a6] (ev_hp I J R T) cz kz = bif decide (a5 ≤ a6) then G 170 104 [.ref 35, .int a0, .int a1, .int a2, .int a3, .int a4] [] (ev_hp I J R T) cz kz else G 170 58 [.ref 35, .int a0, .int a1, .int a2, .int a3, .int a4] [] (ev_hp I J R T) cz kz := by
  intro G
  rfl
set_option maxRecDepth 100000 in
theorem cw9_r35 {a0 : Int32} {a1 : Int32} {a2 : Int32} {a3 : Int32} {a4 : Int32} : ∀ G : ez_F, fx_up X 2 G 170 104 [.ref 35, .int a0, .int a1, .int a2, .int a3, .int a4] [] (ev_hp I J R T) cz kz = G 170 107 [.ref 35, .int a0, .int a1, .int a2, .int a3, .int (0 : Int32)] [] (ev_hp I J R T) cz kz := by
  intro G
  rfl
set_option maxRecDepth 100000 in
theorem cw9_r36 {a0 : Int32} {a1 : Int32} {a2 : Int32} {a3 : Int32} {a4 : Int32} : ∀ G : ez_F, fx_up X 8 G 170 58 [.ref 35, .int a0, .int a1, .int a2, .int a3, .int a4] [] (ev_hp I J R T) cz kz = G 170 72 [.ref 35, .int a0, .int a1, .int a2, .int a3, .int a4] [.int ((3 : Int32) * a4), .ref 50, .int a4, .ref 52] (ev_hp I J R T) cz kz := by
  intro G
  rfl
set_option maxRecDepth 100000 in
theorem cw9_r37 {a0 : Int32} {a1 : Int32} {a2 : Int32} {a3 : Int32} {a4 : Int32} {a5 : Int64} {a6 : Int32} : ∀ G : ez_F, fx_up X 7 G 170 73 [.ref 35, .int a0, .int a1, .int a2, .int a3, .int a4] [.long a5, .int a6, .ref 52] (ev_hp I J R T) cz kz = G 170 83 [.ref 35, .int a0, .int a1, .int a2, .int a3, .int a4] [.int (((3 : Int32) * a4) + (1 : Int32)), .ref 50, .long a5, .int a6, .ref 52] (ev_hp I J R T) cz kz := by
  intro G
  rfl
set_option maxRecDepth 100000 in
theorem cw9_r38 {a0 : Int32} {a1 : Int32} {a2 : Int32} {a3 : Int32} {a4 : Int32} {a5 : Int64} {a6 : Int64} {a7 : Int32} : ∀ G : ez_F, fx_up X 8 G 170 84 [.ref 35, .int a0, .int a1, .int a2, .int a3, .int a4] [.long a5, .long a6, .int a7, .ref 52] (ev_hp I J R T) cz kz = G 170 95 [.ref 35, .int a0, .int a1, .int a2, .int a3, .int a4] [.int (((3 : Int32) * a4) + (2 : Int32)), .ref 50, .long (a6 ||| a5), .int a7, .ref 52] (ev_hp I J R T) cz kz := by
  intro G
  rfl
set_option maxRecDepth 100000 in
theorem cw9_r39 {a0 : Int32} {a1 : Int32} {a2 : Int32} {a3 : Int32} {a4 : Int32} {a5 : Int64} {a6 : Int64} {a7 : Int32} : ∀ G : ez_F, fx_up X 1 G 170 96 [.ref 35, .int a0, .int a1, .int a2, .int a3, .int a4] [.long a5, .long a6, .int a7, .ref 52] (ev_hp I J R T) cz kz = G 170 97 [.ref 35, .int a0, .int a1, .int a2, .int a3, .int a4] [.long (a6 ||| a5), .int a7, .ref 52] (ev_hp I J R T) cz kz := by
  intro G
  rfl
set_option maxRecDepth 100000 in
theorem cw9_r40 {a0 : Int32} {a1 : Int32} {a2 : Int32} {a3 : Int32} {a4 : Int32} : ∀ G : ez_F, fx_up X 2 G 170 98 [.ref 35, .int a0, .int a1, .int a2, .int a3, .int a4] [] (ev_hp I J R T) cz kz = G 170 49 [.ref 35, .int a0, .int a1, .int a2, .int a3, .int (a4 + (1 : Int32))] [] (ev_hp I J R T) cz kz := by
  intro G
  rfl
theorem bw9_49 {x f s m i : Int32}
    (H : (((I 35 24) ≤ i → pw N X 170 107 [.ref 35, .int x, .int f, .int s, .int m, .int (0 : Int32)] [] (ev_hp I J R T) Q) ∧ (¬ ((I 35 24) ≤ i) → (ev_ix ((3 : Int32) * i) 30003 → (ev_ix (((3 : Int32) * i) + (1 : Int32)) 30003 → (ev_ix (((3 : Int32) * i) + (2 : Int32)) 30003 → (ev_ix i 10001 → pw N X 170 49 [.ref 35, .int x, .int f, .int s, .int m, .int (i + (1 : Int32))] [] (ev_hp I (ev_sJ J 52 (vp_updL (J 52) i.toNatClampNeg (((J 50 ((3 : Int32) * i).toNatClampNeg) ||| (J 50 (((3 : Int32) * i) + (1 : Int32)).toNatClampNeg)) ||| (J 50 (((3 : Int32) * i) + (2 : Int32)).toNatClampNeg)))) R T) Q))))))) : pw (N + 1) X 170 49 [.ref 35, .int x, .int f, .int s, .int m, .int i] [] (ev_hp I J R T) Q := by
  refine pw_seg (by decide) (fun _ _ => cw9_r33) ?_
  refine pw_p (pw_if (by decide) (fun _ _ => cw9_r34) (fun w1 => ?_) (fun w1 => ?_))
  · have h1 := H.1 w1
    refine pw_p (pw_seg (by decide) (fun _ _ => cw9_r35) ?_)
    exact h1
  · have h1 := H.2 w1
    refine pw_p (pw_seg (by decide) (fun _ _ => cw9_r36) ?_)
    refine pw_p (pw_lald (by rfl) (cx_getJ (show cx_Ds[50]? = some (1, 30003, []) from rfl)) (fun w2 => ?_))
    have h2 := h1 w2
    refine pw_p (pw_seg (by decide) (fun _ _ => cw9_r37) ?_)
    refine pw_p (pw_lald (by rfl) (cx_getJ (show cx_Ds[50]? = some (1, 30003, []) from rfl)) (fun w2 => ?_))
    have h2 := h2 w2
    refine pw_p (pw_seg (by decide) (fun _ _ => cw9_r38) ?_)
    refine pw_p (pw_lald (by rfl) (cx_getJ (show cx_Ds[50]? = some (1, 30003, []) from rfl)) (fun w2 => ?_))
    have h2 := h2 w2
    refine pw_p (pw_seg (by decide) (fun _ _ => cw9_r39) ?_)
    refine pw_p (pw_last (by rfl) (cx_getJ (show cx_Ds[52]? = some (1, 10001, []) from rfl)) (cx_setJ (show cx_Ds[52]? = some (1, 10001, []) from rfl) _) (fun w2 => ?_))
    have h2 := h2 w2
    refine pw_p (pw_seg (by decide) (fun _ _ => cw9_r40) ?_)
    exact h2
set_option maxRecDepth 100000 in
theorem cw9_r41 {a0 : Int32} {a1 : Int32} {a2 : Int32} {a3 : Int32} {a4 : Int32} : ∀ G : ez_F, fx_up X 3 G 170 107 [.ref 35, .int a0, .int a1, .int a2, .int a3, .int a4] [] (ev_hp I J R T) cz kz = ev_C G 179 [.ref 35] (ev_hp I J R T) fun r h1 c1 k1 => G 170 113 [.ref 35, .int a0, .int a1, .int a2, .int a3, .int a4] (r.toList ++ [.int a4]) h1 (cz + c1) (kz + k1) := by
  intro G
  rfl
set_option maxRecDepth 100000 in
theorem cw9_r42 {a0 : Int32} {a1 : Int32} {a2 : Int32} {a3 : Int32} {a4 : Int32} {a5 : Int32} {a6 : Int32} : ∀ G : ez_F, fx_up X 1 G 170 113 [.ref 35, .int a0, .int a1, .int a2, .int a3, .int a4] [.int a5, .int a6] (ev_hp I J R T) cz kz = bif decide (a5 ≤ a6) then G 170 170 [.ref 35, .int a0, .int a1, .int a2, .int a3, .int a4] [] (ev_hp I J R T) cz kz else G 170 116 [.ref 35, .int a0, .int a1, .int a2, .int a3, .int a4] [] (ev_hp I J R T) cz kz := by
  intro G
  rfl
set_option maxRecDepth 100000 in
theorem cw9_r43 {a0 : Int32} {a1 : Int32} {a2 : Int32} {a3 : Int32} {a4 : Int32} : ∀ G : ez_F, fx_up X 4 G 170 116 [.ref 35, .int a0, .int a1, .int a2, .int a3, .int a4] [] (ev_hp I J R T) cz kz = G 170 122 [.ref 35, .int a0, .int a1, .int a2, .int a3, .int a4, .int (a4 + (1 : Int32))] [] (ev_hp I J R T) cz kz := by
  intro G
  rfl
theorem bw9_107 {x f s m i : Int32}
    (H : ((((I 35 0) * (I 35 1)) ≤ i → pw N X 170 170 [.ref 35, .int x, .int f, .int s, .int m, .int i] [] (ev_hp I J R T) Q) ∧ (¬ (((I 35 0) * (I 35 1)) ≤ i) → pw N X 170 122 [.ref 35, .int x, .int f, .int s, .int m, .int i, .int (i + (1 : Int32))] [] (ev_hp I J R T) Q))) : pw (N + 1) X 170 107 [.ref 35, .int x, .int f, .int s, .int m, .int i] [] (ev_hp I J R T) Q := by
  refine pw_callp (by decide) (fun _ _ => cw9_r41) (pe_mcount) ?_
  refine pw_p (pw_if (by decide) (fun _ _ => cw9_r42) (fun w1 => ?_) (fun w1 => ?_))
  · have h1 := H.1 w1
    exact h1
  · have h1 := H.2 w1
    refine pw_p (pw_seg (by decide) (fun _ _ => cw9_r43) ?_)
    exact h1
set_option maxRecDepth 100000 in
theorem cw9_r44 {a0 : Int32} {a1 : Int32} {a2 : Int32} {a3 : Int32} {a4 : Int32} {a5 : Int32} : ∀ G : ez_F, fx_up X 3 G 170 122 [.ref 35, .int a0, .int a1, .int a2, .int a3, .int a4, .int a5] [] (ev_hp I J R T) cz kz = ev_C G 179 [.ref 35] (ev_hp I J R T) fun r h1 c1 k1 => G 170 128 [.ref 35, .int a0, .int a1, .int a2, .int a3, .int a4, .int a5] (r.toList ++ [.int a5]) h1 (cz + c1) (kz + k1) := by
  intro G
  rfl
set_option maxRecDepth 100000 in
theorem cw9_r45 {a0 : Int32} {a1 : Int32} {a2 : Int32} {a3 : Int32} {a4 : Int32} {a5 : Int32} {a6 : Int32} {a7 : Int32} : ∀ G : ez_F, fx_up X 1 G 170 128 [.ref 35, .int a0, .int a1, .int a2, .int a3, .int a4, .int a5] [.int a6, .int a7] (ev_hp I J R T) cz kz = bif decide (a6 ≤ a7) then G 170 164 [.ref 35, .int a0, .int a1, .int a2, .int a3, .int a4, .int a5] [] (ev_hp I J R T) cz kz else G 170 131 [.ref 35, .int a0, .int a1, .int a2, .int a3, .int a4, .int a5] [] (ev_hp I J R T) cz kz := by
  intro G
  rfl
set_option maxRecDepth 100000 in
theorem cw9_r46 {a0 : Int32} {a1 : Int32} {a2 : Int32} {a3 : Int32} {a4 : Int32} {a5 : Int32} : ∀ G : ez_F, fx_up X 2 G 170 164 [.ref 35, .int a0, .int a1, .int a2, .int a3, .int a4, .int a5] [] (ev_hp I J R T) cz kz = G 170 107 [.ref 35, .int a0, .int a1, .int a2, .int a3, .int (a4 + (1 : Int32)), .int a5] [] (ev_hp I J R T) cz kz := by
  intro G
  rfl
set_option maxRecDepth 100000 in
theorem cw9_r47 {a0 : Int32} {a1 : Int32} {a2 : Int32} {a3 : Int32} {a4 : Int32} {a5 : Int32} : ∀ G : ez_F, fx_up X 4 G 170 131 [.ref 35, .int a0, .int a1, .int a2, .int a3, .int a4, .int a5] [] (ev_hp I J R T) cz kz = ev_C G 194 [.ref 35, .int a4, .int a5] (ev_hp I J R T) fun r h1 c1 k1 => G 170 139 [.ref 35, .int a0, .int a1, .int a2, .int a3, .int a4, .int a5] (r.toList ++ []) h1 (cz + c1) (kz + k1) := by
  intro G
  rfl
theorem bw9_122 {x f s m i b : Int32}
    (H : ((((I 35 0) * (I 35 1)) ≤ b → pw N X 170 107 [.ref 35, .int x, .int f, .int s, .int m, .int (i + (1 : Int32))] [] (ev_hp I J R T) Q) ∧ (¬ (((I 35 0) * (I 35 1)) ≤ b) → (∃ Q1 : pw_Q, pe N X 194 [.ref 35, .int i, .int b] (ev_hp I J R T) Q1 ∧ ∀ (r : Option Value) (h1 : ez_H), Q1 r h1 → pw N X 170 139 [.ref 35, .int x, .int f, .int s, .int m, .int i, .int b] (r.toList ++ []) h1 Q)))) : pw (N + 1) X 170 122 [.ref 35, .int x, .int f, .int s, .int m, .int i, .int b] [] (ev_hp I J R T) Q := by
  refine pw_callp (by decide) (fun _ _ => cw9_r44) (pe_mcount) ?_
  refine pw_p (pw_if (by decide) (fun _ _ => cw9_r45) (fun w1 => ?_) (fun w1 => ?_))
  · have h1 := H.1 w1
    refine pw_p (pw_seg (by decide) (fun _ _ => cw9_r46) ?_)
    refine pw_cutl (by rfl) ?_
    exact h1
  · have h1 := H.2 w1
    obtain ⟨Q1, hc, hk⟩ := h1
    exact pw_p (pw_call (by decide) (fun _ _ => cw9_r47) hc hk)
set_option maxRecDepth 100000 in
theorem cw9_r48 {a0 : Int32} {a1 : Int32} {a2 : Int32} {a3 : Int32} {a4 : Int32} {a5 : Int32} {a6 : Int32} : ∀ G : ez_F, fx_up X 4 G 170 139 [.ref 35, .int a0, .int a1, .int a2, .int a3, .int a4, .int a5] [.int a6] (ev_hp I J R T) cz kz = bif decide (a3 ≤ a6) then G 170 158 [.ref 35, .int a0, .int a1, .int a2, .int a3, .int a4, .int a5, .int a6] [] (ev_hp I J R T) cz kz else G 170 148 [.ref 35, .int a0, .int a1, .int a2, .int a3, .int a4, .int a5, .int a6] [] (ev_hp I J R T) cz kz := by
  intro G
  rfl
set_option maxRecDepth 100000 in
theorem cw9_r49 {a0 : Int32} {a1 : Int32} {a2 : Int32} {a3 : Int32} {a4 : Int32} {a5 : Int32} {a6 : Int32} : ∀ G : ez_F, fx_up X 2 G 170 158 [.ref 35, .int a0, .int a1, .int a2, .int a3, .int a4, .int a5, .int a6] [] (ev_hp I J R T) cz kz = G 170 122 [.ref 35, .int a0, .int a1, .int a2, .int a3, .int a4, .int (a5 + (1 : Int32)), .int a6] [] (ev_hp I J R T) cz kz := by
  intro G
  rfl
set_option maxRecDepth 100000 in
theorem cw9_r50 {a0 : Int32} {a1 : Int32} {a2 : Int32} {a3 : Int32} {a4 : Int32} {a5 : Int32} {a6 : Int32} : ∀ G : ez_F, fx_up X 8 G 170 148 [.ref 35, .int a0, .int a1, .int a2, .int a3, .int a4, .int a5, .int a6] [] (ev_hp I J R T) cz kz = G 170 122 [.ref 35, .int a0, .int a4, .int a5, .int a6, .int a4, .int (a5 + (1 : Int32)), .int a6] [] (ev_hp I J R T) cz kz := by
  intro G
  rfl
theorem bw9_139 {x f s m i b v : Int32}
    (H : ((m ≤ v → pw N X 170 122 [.ref 35, .int x, .int f, .int s, .int m, .int i, .int (b + (1 : Int32))] [] (ev_hp I J R T) Q) ∧ (¬ (m ≤ v) → pw N X 170 122 [.ref 35, .int x, .int i, .int b, .int v, .int i, .int (b + (1 : Int32))] [] (ev_hp I J R T) Q))) : pw (N + 1) X 170 139 [.ref 35, .int x, .int f, .int s, .int m, .int i, .int b] [.int v] (ev_hp I J R T) Q := by
  refine pw_if (by decide) (fun _ _ => cw9_r48) (fun w1 => ?_) (fun w1 => ?_)
  · have h1 := H.1 w1
    refine pw_p (pw_seg (by decide) (fun _ _ => cw9_r49) ?_)
    refine pw_cutl (by rfl) ?_
    exact h1
  · have h1 := H.2 w1
    refine pw_p (pw_seg (by decide) (fun _ _ => cw9_r50) ?_)
    refine pw_cutl (by rfl) ?_
    exact h1
set_option maxRecDepth 100000 in
theorem cw9_r51 {a0 : Int32} {a1 : Int32} {a2 : Int32} {a3 : Int32} {a4 : Int32} : ∀ G : ez_F, fx_up X 2 G 170 170 [.ref 35, .int a0, .int a1, .int a2, .int a3, .int a4] [] (ev_hp I J R T) cz kz = bif decide (¬ a0 = (0 : Int32)) then G 170 178 [.ref 35, .int a0, .int a1, .int a2, .int a3, .int a4] [] (ev_hp I J R T) cz kz else G 170 174 [.ref 35, .int a0, .int a1, .int a2, .int a3, .int a4] [] (ev_hp I J R T) cz kz := by
  intro G
  rfl
set_option maxRecDepth 100000 in
theorem cw9_r52 {a0 : Int32} {a1 : Int32} {a2 : Int32} {a3 : Int32} {a4 : Int32} : ∀ G : ez_F, fx_up X 3 G 170 178 [.ref 35, .int a0, .int a1, .int a2, .int a3, .int a4] [] (ev_hp I J R T) cz kz = bif decide (¬ a0 = (1 : Int32)) then G 170 187 [.ref 35, .int a0, .int a1, .int a2, .int a3, .int a4] [] (ev_hp I J R T) cz kz else G 170 183 [.ref 35, .int a0, .int a1, .int a2, .int a3, .int a4] [] (ev_hp I J R T) cz kz := by
  intro G
  rfl
set_option maxRecDepth 100000 in
theorem cw9_r53 {a0 : Int32} {a1 : Int32} {a2 : Int32} {a3 : Int32} {a4 : Int32} : ∀ G : ez_F, fx_up X 2 G 170 187 [.ref 35, .int a0, .int a1, .int a2, .int a3, .int a4] [] (ev_hp I J R T) cz kz = some (some (.int a3), (ev_hp I J R T), cz, kz) := by
  intro G
  rfl
set_option maxRecDepth 100000 in
theorem cw9_r54 {a0 : Int32} {a1 : Int32} {a2 : Int32} {a3 : Int32} {a4 : Int32} : ∀ G : ez_F, fx_up X 3 G 170 183 [.ref 35, .int a0, .int a1, .int a2, .int a3, .int a4] [] (ev_hp I J R T) cz kz = some (some (.int a2), (ev_hp I J R T), cz, kz) := by
  intro G
  rfl
set_option maxRecDepth 100000 in
theorem cw9_r55 {a0 : Int32} {a1 : Int32} {a2 : Int32} {a3 : Int32} {a4 : Int32} : ∀ G : ez_F, fx_up X 3 G 170 174 [.ref 35, .int a0, .int a1, .int a2, .int a3, .int a4] [] (ev_hp I J R T) cz kz = some (some (.int a1), (ev_hp I J R T), cz, kz) := by
  intro G
  rfl
theorem bw9_170 {x f s m i : Int32}
    (H : ((¬ x = (0 : Int32) → ((¬ x = (1 : Int32) → Q (some (.int m)) (ev_hp I J R T)) ∧ (¬ (¬ x = (1 : Int32)) → Q (some (.int s)) (ev_hp I J R T)))) ∧ (¬ (¬ x = (0 : Int32)) → Q (some (.int f)) (ev_hp I J R T)))) : pw (N + 1) X 170 170 [.ref 35, .int x, .int f, .int s, .int m, .int i] [] (ev_hp I J R T) Q := by
  refine pw_if (by decide) (fun _ _ => cw9_r51) (fun w1 => ?_) (fun w1 => ?_)
  · have h1 := H.1 w1
    refine pw_p (pw_if (by decide) (fun _ _ => cw9_r52) (fun w2 => ?_) (fun w2 => ?_))
    · have h2 := h1.1 w2
      exact pw_p (pw_ret (by decide) (fun _ _ => cw9_r53) h2)
    · have h2 := h1.2 w2
      exact pw_p (pw_ret (by decide) (fun _ _ => cw9_r54) h2)
  · have h1 := H.2 w1
    exact pw_p (pw_ret (by decide) (fun _ _ => cw9_r55) h1)
end
theorem kb_1x (i : Nat) : kb 1 i = decide (i = 0) := by
  have h : kb ((1 : Int64) <<< ((Int32.ofNat 0).toInt64 &&& (63 : Int64))) i = decide (i = 0) := by rw [kb_one (by decide)]
  rw [show (1 : Int64) <<< ((Int32.ofNat 0).toInt64 &&& (63 : Int64)) = 1 from by decide] at h
  exact h
theorem and_1x (v : Int64) : v &&& 1 = bif kb v 0 then 1 else 0 := kb_ext fun i _ => by
  rw [kb_and, kb_1x]
  cases hv : kb v 0
  · by_cases e : i = 0
    · rw [e, hv]
      exact (kb_0 0).symm
    · rw [decide_eq_false e, Bool.and_false]
      exact (kb_0 i).symm
  · by_cases e : i = 0
    · rw [e, hv]
      exact (kb_1x 0).symm
    · rw [decide_eq_false e, Bool.and_false]
      show false = kb 1 i
      rw [kb_1x, decide_eq_false e]
theorem sh_1x (w : Int64) {c : Nat} (hc : c < 64) : (w >>> ((Int32.ofNat c).toInt64 &&& (63 : Int64))) &&& (1 : Int64) = bif kb w c then 1 else 0 := by
  have h := has_kb w hc
  unfold ev_has at h
  cases hk : kb w c
  · rw [hk] at h
    have h1 := h.mpr rfl
    have hn : ¬ (w >>> ((Int32.ofNat c).toInt64 &&& (63 : Int64))) &&& (1 : Int64) = 1 := fun e => by
      rw [if_neg (fun z => z ((lg_eq _ _).mpr e))] at h1
      exact absurd h1 (by decide)
    rw [and_1x] at hn ⊢
    cases h0 : kb (w >>> ((Int32.ofNat c).toInt64 &&& (63 : Int64))) 0
    · rfl
    · rw [h0] at hn
      exact absurd rfl hn
  · rw [hk] at h
    apply Classical.byContradiction
    intro hn
    have h2 := h.mp (if_pos (fun z => hn ((lg_eq _ _).mp z)))
    cases h2
theorem sb_ix (w : Int64) {a b : Nat} (ha : a < 64) (hb : b < 64) : (((w >>> ((Int32.ofNat a).toInt64 &&& (63 : Int64))) &&& (1 : Int64)) + ((w >>> ((Int32.ofNat b).toInt64 &&& (63 : Int64))) &&& (1 : Int64))).toInt32 = Int32.ofNat (sbN (kb w a) (kb w b)) := by
  rw [sh_1x w ha, sh_1x w hb]
  cases kb w a <;> cases kb w b <;> decide
section
variable {N : Nat} {X : ez_X} {I A : Nat → Nat → Int32} {J B : Nat → Nat → Int64} {R R1 : Nat → Nat} {T T1 : List ez_C} {x y : Int32} {lk : Nat → Bool} {P : Nat → Nat → Bool} {l a b : Nat}
theorem pe_two (e24 : A 35 24 = Int32.ofNat (cq lk l)) (hl : l ≤ 10000) (h52 : ∀ j, j < l → lk j = true → ∀ c, kb (B 52 (cq lk j)) c = P j c) (ha : a < 64) (hb : b < 64) (hx : x = Int32.ofNat a) (hy : y = Int32.ofNat b) : pe N X 194 [.ref 35, .int x, .int y] (ev_hp A B R T) (fun r h => r = some (.int (Int32.ofNat (gB lk P l a b))) ∧ ∃ F, h = ev_hp (ev_sI A 53 F) B R T) := by
  subst hx hy
  have hll := cq_le lk l
  have ez : ∀ v k, ptB lk P (k + 1) a b v = ptB lk P k a b v + (bif (lk k && decide (sbN (P k a) (P k b) = v)) then 1 else 0) := fun _ _ => rfl
  have eL : ∀ k, cq lk (k + 1) = cq lk k + (bif lk k then 1 else 0) := fun _ => rfl
  have loop : ∀ (d k : Nat), k + d = l → ∀ F, (∀ v, v ≤ 2 → F v = Int32.ofNat (ptB lk P k a b v)) → ∀ N, pw N X 194 23 [.ref 35, .int (Int32.ofNat a), .int (Int32.ofNat b), .int (Int32.ofNat (cq lk k))] [] (ev_hp (ev_sI A 53 F) B R T) (fun r h => r = some (.int (Int32.ofNat (gB lk P l a b))) ∧ ∃ F, h = ev_hp (ev_sI A 53 F) B R T) := by
    intro d
    induction d with
    | zero =>
      intro k hk F hF N
      obtain rfl : k = l := by omega
      have p0 := hF 0 (by decide)
      have p1 := hF 1 (by decide)
      have p2 := hF 2 (by decide)
      have hn := ptB_n lk P k a b
      refine pw_p (gt9_23 ⟨fun _ => pw_p (gt9_68 ?_), fun g => ?_⟩)
      rotate_left
      · rw [cx_sI_n _ _ (show (35 : Nat) ≠ 53 by decide), e24] at g
        exact absurd (Int32.le_refl _) g
      rw [show ((0 : Int32).toNatClampNeg) = 0 from rfl, show ((1 : Int32).toNatClampNeg) = 1 from rfl, show ((2 : Int32).toNatClampNeg) = 2 from rfl, cx_sI_s, p0, p1, p2]
      have key : ∀ u, u = gB lk P k a b → (some (Value.int (Int32.ofNat u)) = some (Value.int (Int32.ofNat (gB lk P k a b))) ∧ ∃ F', ev_hp (ev_sI A 53 F) B R T = ev_hp (ev_sI A 53 F') B R T) := by
        rintro u rfl
        exact ⟨rfl, F, rfl⟩
      refine fun _ _ => ⟨fun g _ _ => ⟨fun g2 => key _ ?_, fun g2 _ => key _ ?_⟩, fun g _ _ => ⟨fun g2 => key _ ?_, fun g2 _ => key _ ?_⟩⟩
      · rw [io_le (by omega) (by omega)] at g g2
        unfold gB
        omega
      · rw [io_le (by omega) (by omega)] at g g2
        unfold gB
        omega
      · rw [io_le (by omega) (by omega)] at g g2
        unfold gB
        omega
      · rw [io_le (by omega) (by omega)] at g g2
        unfold gB
        omega
    | succ d ih =>
      intro k hkd F hF N
      have hk : k < l := by omega
      cases hp : lk k
      · have h6 := ih (k + 1) (by omega) F (fun v hv => by
          rw [hF v hv, ez, hp]
          rfl) N
        rw [eL, hp] at h6
        exact h6
      · have hlt := cq_lt (p := lk) hk hp
        have hs2 := sbN_2 (P k a) (P k b)
        refine pw_p (gt9_23 ⟨fun g => ?_, fun _ _ _ => ?_⟩)
        · rw [cx_sI_n _ _ (show (35 : Nat) ≠ 53 by decide), e24, io_le (by omega) (by omega)] at g
          omega
        rw [io_cl (by omega), sb_ix _ ha hb, h52 k hk hp, h52 k hk hp, io_cl (by omega), cx_sI_s, sI2, io_1]
        intro _ _
        have h6 := ih (k + 1) (by omega) (upd F (sbN (P k a) (P k b)) (F (sbN (P k a) (P k b)) + 1)) (fun v hv => by
          rw [ez, hp, Bool.true_and]
          by_cases e : v = sbN (P k a) (P k b)
          · rw [← e, upd_s, hF v hv, decide_eq_true rfl]
            exact io_1 _
          · rw [upd_n _ _ e, hF v hv, decide_eq_false (fun z => e z.symm)]
            rfl) N
        rw [eL, hp] at h6
        exact h6
  refine pe_of (pw_p (gt9_0 fun _ _ _ => ?_))
  rw [show ((0 : Int32).toNatClampNeg) = 0 from rfl, show ((1 : Int32).toNatClampNeg) = 1 from rfl, show ((2 : Int32).toNatClampNeg) = 2 from rfl, sI2, sI2]
  refine loop l 0 (by omega) _ (fun v hv => ?_) _
  rcases (show v = 0 ∨ v = 1 ∨ v = 2 by omega) with rfl | rfl | rfl
  · rw [upd_n _ _ (by decide), upd_n _ _ (by decide), upd_s]
    rfl
  · rw [upd_n _ _ (by decide), upd_s]
    rfl
  · rw [upd_s]
    rfl
theorem pe_mbestSalvo (h : rl3 I J R1 T1) (hB : cx_hB cx_B0 I) : pe N X 170 [.ref 35, .int x] (ev_hp I J R T) (fun r _ => r = some (.int (v_bestSalvo I J x))) := by
  obtain ⟨m, en, hm4, hm⟩ := b_16 hB
  have enm : (I 1 6).toInt.toNat = m := by
    rw [en, io_ti (by omega)]
    exact Int.toNat_natCast m
  refine pe_of (pw_p (bw9_0 ?_))
  rw [il_02]
  refine ⟨fun hx => ⟨_, pe_findLeft h hB _, ?_⟩, fun hx => ?_⟩
  rotate_left
  · unfold v_bestSalvo
    rw [if_pos (Classical.not_not.mp hx)]
  rintro r h' ⟨A, B, rfl, ⟨h1, rfl⟩ | ⟨h1, hlen, rfl, W, HH, hg, hA, hL⟩⟩
  · refine pw_p (bw9_19 ⟨fun z => absurd rfl z, fun _ => ?_⟩)
    unfold v_bestSalvo
    rw [if_neg hx, if_neg h1]
  · have e24 : A 35 24 = Int32.ofNat (tN I J) := hL.1
    have htl := cq_le (lkf I J) (ls I J).length
    have htl : tN I J ≤ (ls I J).length := htl
    have e01 : A 35 0 * A 35 1 = Int32.ofNat m := by
      rw [hA.2.2.2.2.2.2.2.2.1, hA.2.2.2.2.2.2.2.2.2, ← en]
      exact (congrArg (fun K : kt_K => K.2.2.2.1) h.1.1.1).symm
    refine pw_p (bw9_19 ⟨fun _ => ?_, fun z => absurd (by decide) z⟩)
    rw [e24]
    refine ⟨fun g => ?_, fun g => ?_⟩
    rotate_left
    · unfold v_bestSalvo
      rw [if_neg hx, if_pos h1, if_pos (Classical.not_not.mp g)]
    rw [io_1]
    have hv : v_bestSalvo I J x = if x = 0 then Int32.ofNat (psF I J).1 else if x = 1 then Int32.ofNat (psF I J).2.1 else Int32.ofNat (psF I J).2.2 := by
      unfold v_bestSalvo
      rw [if_neg hx, if_pos h1, if_neg g]
    have hps : psF I J = psA (gB (lkf I J) (fun k c => kb (xp I J ((ls I J).getD k (0, 0, 0)) (nca I)) c) (ls I J).length) m m (0, 1, tN I J + 1) := by
      unfold psF
      rw [enm]
    generalize hgE : gB (lkf I J) (fun k c => kb (xp I J ((ls I J).getD k (0, 0, 0)) (nca I)) c) (ls I J).length = gg at hps
    have hgg : ∀ a b, gg a b ≤ tN I J := fun a b => by
      rw [← hgE]
      exact gB_le _ _ _ _ _
    have eL : ∀ k, cq (lkf I J) (k + 1) = cq (lkf I J) k + (bif lkf I J k then 1 else 0) := fun _ => rfl
    have pairs : ∀ F : Nat → Int64, (∀ j, j < (ls I J).length → lkf I J j = true → F (cq (lkf I J) j) = xp I J ((ls I J).getD j (0, 0, 0)) (nca I)) → ∀ N, pw N X 170 107 [.ref 35, .int x, .int (0 : Int32), .int (1 : Int32), .int (Int32.ofNat (tN I J + 1)), .int (0 : Int32)] [] (ev_hp A (ev_sJ B 52 F) R T) (fun r _ => r = some (.int (v_bestSalvo I J x))) := by
      intro F hF
      have two : ∀ G a b, a < m → b < m → ∀ N, pe N X 194 [.ref 35, .int (Int32.ofNat a), .int (Int32.ofNat b)] (ev_hp (ev_sI A 53 G) (ev_sJ B 52 F) R T) (fun r h => r = some (.int (Int32.ofNat (gg a b))) ∧ ∃ F', h = ev_hp (ev_sI (ev_sI A 53 G) 53 F') (ev_sJ B 52 F) R T) := fun G a b ha hb N => by
        rw [← hgE]
        refine pe_two ?_ hlen (fun j hj hjk c => ?_) (by omega) (by omega) rfl rfl
        · rw [cx_sI_n _ _ (show (35 : Nat) ≠ 53 by decide)]
          exact e24
        · rw [cx_sJ_s, hF j hj hjk]
      have c01 : ∀ G : Nat → Int32, ev_sI A 53 G 35 0 * ev_sI A 53 G 35 1 = Int32.ofNat m := fun G => by
        rw [cx_sI_n _ _ (show (35 : Nat) ≠ 53 by decide)]
        exact e01
      have outer : ∀ (e a : Nat), a + e = m → ∀ G, ∀ N, pw N X 170 107 [.ref 35, .int x, .int (Int32.ofNat (psA gg m a (0, 1, tN I J + 1)).1), .int (Int32.ofNat (psA gg m a (0, 1, tN I J + 1)).2.1), .int (Int32.ofNat (psA gg m a (0, 1, tN I J + 1)).2.2), .int (Int32.ofNat a)] [] (ev_hp (ev_sI A 53 G) (ev_sJ B 52 F) R T) (fun r _ => r = some (.int (v_bestSalvo I J x))) := by
        intro e
        induction e with
        | zero =>
          intro a ha G N
          obtain rfl : a = m := by omega
          refine pw_p (bw9_107 ⟨fun _ => pw_p (bw9_170 ?_), fun g => ?_⟩)
          · rw [hv, hps]
            refine ⟨fun x0 => ⟨fun x1 => ?_, fun x1 => ?_⟩, fun x0 => ?_⟩
            · rw [if_neg x0, if_neg x1]
            · rw [if_neg x0, if_pos (Classical.not_not.mp x1)]
            · rw [if_pos (Classical.not_not.mp x0)]
          · rw [c01] at g
            exact absurd (Int32.le_refl _) g
        | succ e ih =>
          intro a hae G N
          have hs0 : (psA gg m a (0, 1, tN I J + 1)).2.2 ≤ tN I J + 1 := psA_le gg m a (0, 1, tN I J + 1)
          have h7 := fun G N => ih (a + 1) (by omega) G N
          have e1 : psA gg m (a + 1) (0, 1, tN I J + 1) = psB gg a (m - (a + 1)) (psA gg m a (0, 1, tN I J + 1)) := rfl
          rw [e1] at h7
          generalize psA gg m a (0, 1, tN I J + 1) = s0 at hs0 h7 ⊢
          refine pw_p (bw9_107 ⟨fun g => ?_, fun _ => ?_⟩)
          · rw [c01, io_le (by omega) (by omega)] at g
            omega
          rw [io_1]
          have inner : ∀ (e d : Nat), d + e = m - (a + 1) → ∀ G, ∀ N, pw N X 170 122 [.ref 35, .int x, .int (Int32.ofNat (psB gg a d s0).1), .int (Int32.ofNat (psB gg a d s0).2.1), .int (Int32.ofNat (psB gg a d s0).2.2), .int (Int32.ofNat a), .int (Int32.ofNat (a + 1 + d))] [] (ev_hp (ev_sI A 53 G) (ev_sJ B 52 F) R T) (fun r _ => r = some (.int (v_bestSalvo I J x))) := by
            intro e
            induction e with
            | zero =>
              intro d hd G N
              obtain rfl : d = m - (a + 1) := by omega
              refine pw_p (bw9_122 ⟨fun _ => ?_, fun g => ?_⟩)
              · rw [io_1]
                exact h7 G _
              · rw [c01, io_le (by omega) (by omega)] at g
                omega
            | succ e ih2 =>
              intro d hde G N
              have hg := hgg a (a + 1 + d)
              have hsl := psB_le gg a d s0
              have h5 := fun G N => ih2 (d + 1) (by omega) G N
              have e2 : psB gg a (d + 1) s0 = if gg a (a + 1 + d) < (psB gg a d s0).2.2 then (a, a + 1 + d, gg a (a + 1 + d)) else psB gg a d s0 := rfl
              rw [e2] at h5
              refine pw_p (bw9_122 ⟨fun g => ?_, fun _ => ⟨_, two G a (a + 1 + d) (by omega) (by omega) _, ?_⟩⟩)
              · rw [c01, io_le (by omega) (by omega)] at g
                omega
              rintro r h ⟨rfl, F', rfl⟩
              rw [sI2]
              refine pw_p (bw9_139 ?_)
              rw [io_le (by omega) (by omega), io_1]
              refine ⟨fun g => ?_, fun g => ?_⟩
              · rw [if_neg (by omega)] at h5
                exact h5 F' _
              · rw [if_pos (by omega)] at h5
                exact h5 F' _
          exact inner (m - (a + 1)) 0 (by omega) G _
      have h8 := fun N => outer m 0 (by omega) (A 53) N
      rw [sI_self] at h8
      exact h8
    have row : ∀ (d k : Nat), k + d = (ls I J).length → ∀ F : Nat → Int64, (∀ j, j < k → lkf I J j = true → F (cq (lkf I J) j) = xp I J ((ls I J).getD j (0, 0, 0)) (nca I)) → ∀ N, pw N X 170 49 [.ref 35, .int x, .int (0 : Int32), .int (1 : Int32), .int (Int32.ofNat (tN I J + 1)), .int (Int32.ofNat (cq (lkf I J) k))] [] (ev_hp A (ev_sJ B 52 F) R T) (fun r _ => r = some (.int (v_bestSalvo I J x))) := by
      intro d
      induction d with
      | zero =>
        intro k hk F hF N
        obtain rfl : k = (ls I J).length := by omega
        refine pw_p (bw9_49 ⟨fun _ => pairs F hF _, fun g => ?_⟩)
        rw [e24] at g
        exact absurd (Int32.le_refl _) g
      | succ d ih =>
        intro k hkd F hF N
        have hk : k < (ls I J).length := by omega
        cases hp : lkf I J k
        · have h6 := ih (k + 1) (by omega) F (fun j hj hjk => by
            by_cases e : j = k
            · rw [e, hp] at hjk
              cases hjk
            · exact hF j (by omega) hjk) N
          rw [eL, hp] at h6
          exact h6
        · have hlt := cq_lt (p := lkf I J) hk hp
          have hlt : cq (lkf I J) k < tN I J := hlt
          refine pw_p (bw9_49 ⟨fun g => ?_, fun _ _ _ _ _ => ?_⟩)
          · rw [e24, io_le (by omega) (by omega)] at g
            omega
          have hs := fun s (hs : s < 3) => ((hL.2 k hk hp).2 s hs).1
          rw [show (3 : Int32) * Int32.ofNat (cq (lkf I J) k) + (1 : Int32) = Int32.ofNat (3 * cq (lkf I J) k + 1) from io_3 _ 1, show (3 : Int32) * Int32.ofNat (cq (lkf I J) k) + (2 : Int32) = Int32.ofNat (3 * cq (lkf I J) k + 2) from io_3 _ 2, show (3 : Int32) * Int32.ofNat (cq (lkf I J) k) = Int32.ofNat (3 * cq (lkf I J) k + 0) from io_mul 3 _, io_cl (by omega), io_cl (by omega), io_cl (by omega), io_cl (by omega), cx_sJ_n _ _ (show (50 : Nat) ≠ 52 by decide), cx_sJ_s, sJ2, hs 0 (by decide), hs 1 (by decide), hs 2 (by decide), io_1]
          have h6 := ih (k + 1) (by omega) (vp_updL F (cq (lkf I J) k) (xp I J ((ls I J).getD k (0, 0, 0)) (nca I))) (fun j hj hjk => by
            by_cases e : j = k
            · rw [e, pv_s]
            · have h9 := cq_lt (p := lkf I J) (show j < k by omega) hjk
              rw [pv_n _ _ (by omega)]
              exact hF j (by omega) hjk) N
          rw [eL, hp] at h6
          exact h6
    have h9 := row (ls I J).length 0 (by omega) (B 52) (fun j hj => absurd hj (Nat.not_lt_zero j))
    rw [sJ_self] at h9
    exact h9 _
end
end
section
/-! Relation 6: what the pairs hold. -/
noncomputable def d5_l : List (Nat × Nat) := [(20, 3), (20, 4), (20, 5), (20, 6)]
noncomputable def d5_fx (md : List (Nat × Nat)) : Bool := b5_fx md && (d5_l.all fun e => !cx_may md e.1 e.2)
section
variable {N : Nat} {X : ez_X} {I I' A : Nat → Nat → Int32} {J J' B : Nat → Nat → Int64} {R R' : Nat → Nat} {T T' : List ez_C} {x y : Int32}
theorem d5_fr {md : List (Nat × Nat)} (h : d5_fx md = true) (hf : cx_fr md I J I' J') (hd : d5 I J) : d5 I' J' := by
  obtain ⟨h1, h2⟩ := Bool.and_eq_true_iff.mp h
  have f : ∀ a k, (a, k) ∈ d5_l → I' a k = I a k ∧ J' a k = J a k := fun a k hm => hf a k (by
    have := List.all_eq_true.mp h2 (a, k) hm
    simpa using this)
  obtain ⟨b1, b2, b3, b4⟩ := b5_fr h1 hf
  exact d5_b b1 b2 b3 b4 (f 20 3 (by decide)).1 (f 20 4 (by decide)).1 (f 20 5 (by decide)).1 (f 20 6 (by decide)).1 hd
theorem d5_cells (hs : ∀ p, p < 35 → (ev_hp I' J' R' T')[p]? = (ev_hp I J R T)[p]?) (h : d5 I J) : d5 I' J' := by
  obtain ⟨b1, b2, b3, b4⟩ := b4_hp (I := I) (J := J) (I' := I') (J' := J') (R := R) (R' := R') (T := T) (T' := T') fun p hp => hs p (by omega)
  have f20 : ∀ k, (k = 3 ∨ k = 4 ∨ k = 5 ∨ k = 6) → I' 20 k = I 20 k := by
    intro k hk
    rcases hk with rfl | rfl | rfl | rfl <;> exact h1_f (n := 0) (show cx_Ds[20]? = some (0 + 2, _, _) from rfl) rfl (hs 20 (by decide))
  exact d5_b b1 b2 b3 b4 (f20 3 (by decide)) (f20 4 (by decide)) (f20 5 (by decide)) (f20 6 (by decide)) h
theorem d5_hp (e : ev_hp I J R T = ev_hp I' J' R' T') (h : d5 I J) : d5 I' J' := d5_cells (fun p _ => by rw [e]) h
/-- behind a call that forgets the pairs, or changes nothing -/
noncomputable def d5_X (I : Nat → Nat → Int32) (J : Nat → Nat → Int64) (R : Nat → Nat) (T : List ez_C) (h : ez_H) : Prop := ∃ A B, h = ev_hp A B R T ∧ (A 20 3 = 0 ∨ (A = I ∧ B = J))
theorem d5_x {h : ez_H} (hx : d5_X I J R T h) (e : h = ev_hp I' J' R' T') (hd : d5 I J) : d5 I' J' := by
  obtain ⟨A, B, e1, hx⟩ := hx
  refine d5_hp (e1.symm.trans e) ?_
  rcases hx with h1 | ⟨rfl, rfl⟩
  · exact Or.inl h1
  · exact hd
theorem x6_drift (x y : Int32) : ev_W X 16 0 (ez_lay [.ref 0, .int x, .int y]) [] (ev_hp I J R T) 0 0 (fun _ h _ _ => d5_X I J R T h) := by
  refine (eg_drift X I J R T x y).mono ?_
  intro r h c k hq
  rcases hq with ⟨-, -, e, -⟩ | ⟨-, -, -, -, e, -⟩ | ⟨-, -, -, -, e, -⟩ | ⟨-, -, -, e, -⟩
  · exact ⟨I, J, e, Or.inr ⟨rfl, rfl⟩⟩
  · exact ⟨_, _, e, Or.inl rfl⟩
  · exact ⟨I, J, e, Or.inr ⟨rfl, rfl⟩⟩
  · exact ⟨I, J, e, Or.inr ⟨rfl, rfl⟩⟩
theorem x6_call (x : Int32) : ev_W X 10 0 (ez_lay [.ref 0, .int x]) [] (ev_hp I J R T) 0 0 (fun _ h _ _ => d5_X I J R T h) := by
  refine (eg_call X I J R T x).mono ?_
  intro r h c k hq
  rcases hq with ⟨-, -, e, -⟩ | ⟨-, -, -, e, -⟩ | ⟨-, -, -, e, -⟩
  · exact ⟨I, J, e, Or.inr ⟨rfl, rfl⟩⟩
  · exact ⟨_, _, e, Or.inl rfl⟩
  · exact ⟨I, J, e, Or.inr ⟨rfl, rfl⟩⟩
theorem x6_salvo (x y : Int32) : ev_W X 41 0 (ez_lay [.ref 0, .int x, .int y]) [] (ev_hp I J R T) 0 0 (fun _ h _ _ => d5_X I J R T h) := by
  refine (eg_salvo X I J R T x y).mono ?_
  intro r h c k hq
  rcases hq with ⟨-, -, e, -⟩ | ⟨-, -, -, -, -, e, -⟩ | ⟨-, -, -, -, -, e, -⟩ | ⟨-, -, -, -, e, -⟩ | ⟨-, -, -, e, -⟩
  · exact ⟨I, J, e, Or.inr ⟨rfl, rfl⟩⟩
  · exact ⟨_, _, e, Or.inl rfl⟩
  · exact ⟨I, J, e, Or.inr ⟨rfl, rfl⟩⟩
  · exact ⟨I, J, e, Or.inr ⟨rfl, rfl⟩⟩
  · exact ⟨I, J, e, Or.inr ⟨rfl, rfl⟩⟩
theorem x6_answer (x y : Int32) : ev_W X 1 0 (ez_lay [.ref 0, .int x, .int y]) [] (ev_hp I J R T) 0 0 (fun _ h _ _ => d5_X I J R T h) := by
  refine (eg_answer X I J R T x y).mono ?_
  intro r h c k hq
  rcases hq with ⟨-, -, -, -, e, -⟩ | ⟨-, -, -, -, e, -⟩ | ⟨-, -, -, e, -⟩ | ⟨-, -, e, -⟩
  · exact ⟨_, _, e, Or.inl rfl⟩
  · exact ⟨_, _, e, Or.inl rfl⟩
  · exact ⟨I, J, e, Or.inr ⟨rfl, rfl⟩⟩
  · exact ⟨I, J, e, Or.inr ⟨rfl, rfl⟩⟩
theorem x6_lose (x : Int32) : ev_W X 32 0 (ez_lay [.ref 0, .int x]) [] (ev_hp I J R T) 0 0 (fun _ h _ _ => d5_X I J R T h) := by
  refine (eg_lose X I J R T x).mono ?_
  intro r h c k hq
  rcases hq with ⟨-, -, -, -, e, -⟩ | ⟨-, -, -, -, e, -⟩ | ⟨-, -, -, e, -⟩ | ⟨-, -, e, -⟩
  · exact ⟨_, _, e, Or.inl rfl⟩
  · exact ⟨I, J, e, Or.inr ⟨rfl, rfl⟩⟩
  · exact ⟨I, J, e, Or.inr ⟨rfl, rfl⟩⟩
  · exact ⟨I, J, e, Or.inr ⟨rfl, rfl⟩⟩
theorem x6_back : ev_W X 5 0 (ez_lay [.ref 0]) [] (ev_hp I J R T) 0 0 (fun _ h _ _ => d5_X I J R T h) := by
  refine (eg_back X I J R T).mono ?_
  intro r h c k hq
  rcases hq with ⟨-, -, -, e, -⟩ | ⟨-, -, -, e, -⟩ | ⟨-, -, e, -⟩
  · exact ⟨_, _, e, Or.inl rfl⟩
  · exact ⟨_, _, e, Or.inl rfl⟩
  · exact ⟨I, J, e, Or.inr ⟨rfl, rfl⟩⟩
theorem x6_set (x y : Int32) : ev_W X 42 0 (ez_lay [.ref 0, .int x, .int y]) [] (ev_hp I J R T) 0 0 (fun _ h _ _ => d5_X I J R T h) := by
  refine (eg_set X I J R T x y).mono ?_
  intro r h c k hq
  rcases hq with ⟨-, -, e, -⟩ | ⟨-, -, -, -, -, -, e, -⟩ | ⟨-, -, -, -, -, -, e, -⟩ | ⟨-, -, -, -, -, e, -⟩ | ⟨-, -, -, -, e, -⟩ | ⟨-, -, -, -, -, -, e, -⟩ | ⟨-, -, -, -, -, -, e, -⟩ | ⟨-, -, -, -, -, e, -⟩ | ⟨-, -, -, -, e, -⟩
  · exact ⟨I, J, e, Or.inr ⟨rfl, rfl⟩⟩
  · exact ⟨_, _, e, Or.inl rfl⟩
  · exact ⟨_, _, e, Or.inl rfl⟩
  · exact ⟨_, _, e, Or.inl rfl⟩
  · exact ⟨I, J, e, Or.inr ⟨rfl, rfl⟩⟩
  · exact ⟨_, _, e, Or.inl rfl⟩
  · exact ⟨_, _, e, Or.inl rfl⟩
  · exact ⟨_, _, e, Or.inl rfl⟩
  · exact ⟨I, J, e, Or.inr ⟨rfl, rfl⟩⟩
theorem x6_grid (x y z : Int32) (hz : z = 0 ∨ z = 1) : ev_W X 18 0 (ez_lay [.ref 0, .int x, .int y, .int z]) [] (ev_hp I J R T) 0 0 (fun _ h _ _ => d5_X I J R T h) := by
  rcases hz with rfl | rfl
  · refine (eg_grid0 X I J R T x y).mono ?_
    rintro r h1 c1 k1 (⟨a, e, hh, -⟩ | ⟨z, y, f, hf, a, b, e, hh, -⟩ | ⟨a, b, e, hh, -⟩)
    · exact ⟨I, J, hh, Or.inr ⟨rfl, rfl⟩⟩
    · exact ⟨_, _, hh, Or.inl rfl⟩
    · exact ⟨I, J, hh, Or.inr ⟨rfl, rfl⟩⟩
  · refine (eg_grid1 X I J R T x y).mono ?_
    rintro r h1 c1 k1 (⟨a, e, hh, -⟩ | ⟨z, y, f, hf, a, b, e, hh, -⟩ | ⟨a, b, e, hh, -⟩)
    · exact ⟨I, J, hh, Or.inr ⟨rfl, rfl⟩⟩
    · exact ⟨_, _, hh, Or.inl rfl⟩
    · exact ⟨I, J, hh, Or.inr ⟨rfl, rfl⟩⟩
theorem x6_ship (hB : cx_hB cx_B0 I) : pe N X 43 [.ref 0, .int x, .int y] (ev_hp I J R T) (fun _ h => d5_X I J R T h) := by
  have hW := hB 1 3
  have hH := hB 1 4
  have hwr := hB 1 5
  have hns := hB 3 3
  rw [show cx_B0 1 3 = (2, 6) from rfl] at hW
  rw [show cx_B0 1 4 = (2, 6) from rfl] at hH
  rw [show cx_B0 1 5 = (0, 1) from rfl] at hwr
  rw [show cx_B0 3 3 = (0, 3) from rfl] at hns
  simp only at hW hH hwr hns
  have hwr := cx_01 hwr.1 hwr.2
  have refused : d5_X I J R T (ev_hp I J R T) := ⟨I, J, rfl, Or.inr ⟨rfl, rfl⟩⟩
  refine pe_of (pw_p (sx_0 ⟨fun _ => refused, fun h1 => ⟨fun _ => refused, fun _ => ⟨fun h2 => ⟨fun _ => ⟨fun h3 => ?_, fun _ => refused⟩, fun _ => refused⟩, fun _ => refused⟩⟩⟩))
  obtain ⟨sh, rfl, s1, s2⟩ := wi_nat (u := 1) (v := 65535) (by omega) h1 (by omega)
  obtain ⟨tn, rfl, -, t2⟩ := wi_nat (u := 0) (v := 2) (by omega) h2 (by omega)
  obtain ⟨ns, e3, n1⟩ : ∃ ns : Nat, I 3 3 = Int32.ofNat ns ∧ ns < 3 := by
    rw [Int32.lt_iff_toInt_lt, show (3 : Int32).toInt = 3 from by decide] at h3
    exact ⟨(I 3 3).toInt.toNat, io_nat hns.1, by omega⟩
  refine ⟨_, pe_build n1 e3 hwr hW hH (by omega) (by omega), ?_⟩
  rintro r h ⟨rfl, I2, J2, rfl, ⟨n, f, g1, g2, -⟩⟩
  refine pw_p (sx_66 ⟨_, pe_W (ea_S_layingsChanged_28_0 X _ _ R T), ?_⟩)
  rintro r h ⟨_, _, rfl, rfl, -⟩
  exact pw_p (sx_71 ⟨_, _, rfl, Or.inl rfl⟩)
theorem v_bestSalvo_b (e : bk I' J' = bk I J) : v_bestSalvo I' J' x = v_bestSalvo I J x := by
  obtain ⟨l1, l2⟩ := bk_ls e
  obtain ⟨b1, b2, b3, b4⟩ := b4_bk e
  have hp := psF_b b1 b2 b3 b4
  have hn : tN I' J' = tN I J := by
    obtain ⟨u1, u2, u3, u4, u5, u6⟩ := b4_use b1
    unfold tN lkf lfB
    rw [u1, u2, b2, b3, b4]
    simp only [u4]
  unfold v_bestSalvo
  rw [l2 0, l2 1, l2 2, hp, hn]
end
noncomputable def rl6 (I : Nat → Nat → Int32) (J : Nat → Nat → Int64) (R : Nat → Nat) (T : List ez_C) : Prop := rl4 I J R T ∧ d5 I J
section
variable {X : ez_X} {m : Nat} {K : cx_K} {as : List Value} {σ0 : List Int} {I : Nat → Nat → Int32} {J : Nat → Nat → Int64} {R : Nat → Nat} {T : List ez_C}
theorem r6_w {M : Int32 → (Nat → Nat → Int32) → (Nat → Nat → Int64) → (Nat → Nat) → List ez_C → Prop} (hl : ev_W X m 0 (ez_lay as) [] (ev_hp I J R T) 0 0 (lw_mid T M)) (he : ev_W X m 0 (ez_lay as) [] (ev_hp I J R T) 0 0 (fun _ h _ _ => d5_X I J R T h)) (hd : d5 I J) : ev_W X m 0 (ez_lay as) [] (ev_hp I J R T) 0 0 (lw_mid T (fun v I1 J1 R1 T1 => M v I1 J1 R1 T1 ∧ d5 I1 J1)) := by
  refine (hl.both he).mono ?_
  rintro r h c k ⟨⟨v, I1, J1, R1, T1, e1, e2, e3, e4, e5, e6⟩, q⟩
  exact ⟨v, I1, J1, R1, T1, e1, e2, e3, e4, e5, e6, d5_x q e2 hd⟩
theorem r6_x {M : Int32 → (Nat → Nat → Int32) → (Nat → Nat → Int64) → (Nat → Nat) → List ez_C → Prop} (hl : ev_W X m 0 (ez_lay as) [] (ev_hp I J R T) 0 0 (lw_mid T M)) (he : ∀ N, pe N X m as (ev_hp I J R T) (fun _ h => d5_X I J R T h)) (hd : d5 I J) : ev_W X m 0 (ez_lay as) [] (ev_hp I J R T) 0 0 (lw_mid T (fun v I1 J1 R1 T1 => M v I1 J1 R1 T1 ∧ d5 I1 J1)) := by
  refine (W_pe hl he).mono ?_
  rintro r h c k ⟨⟨v, I1, J1, R1, T1, e1, e2, e3, e4, e5, e6⟩, q⟩
  exact ⟨v, I1, J1, R1, T1, e1, e2, e3, e4, e5, e6, d5_x q e2 hd⟩
theorem r6_f {M : Int32 → (Nat → Nat → Int32) → (Nat → Nat → Int64) → (Nat → Nat) → List ez_C → Prop} (hl : ev_W X m 0 (ez_lay as) [] (ev_hp I J R T) 0 0 (lw_mid T M)) (he : ∀ N, pe N X m as (ev_hp I J R T) (fun _ h => F5 h)) : ev_W X m 0 (ez_lay as) [] (ev_hp I J R T) 0 0 (lw_mid T (fun v I1 J1 R1 T1 => M v I1 J1 R1 T1 ∧ d5 I1 J1)) := by
  refine (W_pe hl he).mono ?_
  rintro r h c k ⟨⟨v, I1, J1, R1, T1, e1, e2, e3, e4, e5, e6⟩, A, B, R2, T2, q1, q2⟩
  exact ⟨v, I1, J1, R1, T1, e1, e2, e3, e4, e5, e6, d5_hp (q1.symm.trans e2) q2⟩
theorem r6_v {M : Int32 → (Nat → Nat → Int32) → (Nat → Nat → Int64) → (Nat → Nat) → List ez_C → Prop} (hl : ev_W X m 0 (ez_lay as) [] (ev_hp I J R T) 0 0 (lw_mid T M)) (hf : d5_fx K.2.1 = true) (hv : cx_valid cx_B0 m K) (hX2 : X.1 < 2 ^ 31) (hh : cx_hok cx_B0 I R T) (hok : cx_ok σ0 K.1 (ez_lay as) [] I T) (hd : d5 I J) : ev_W X m 0 (ez_lay as) [] (ev_hp I J R T) 0 0 (lw_mid T (fun v I1 J1 R1 T1 => M v I1 J1 R1 T1 ∧ d5 I1 J1)) := by
  refine (hl.both (hv X σ0 _ I J R T hX2 hh hok)).mono ?_
  rintro r h c k ⟨⟨v, I1, J1, R1, T1, e1, e2, e3, e4, e5, e6⟩, A, B, R2, T2, q1, -, q3, -⟩
  exact ⟨v, I1, J1, R1, T1, e1, e2, e3, e4, e5, e6, d5_hp (q1.symm.trans e2) (d5_fr hf q3 hd)⟩
theorem r6_m {M : Int32 → (Nat → Nat → Int32) → (Nat → Nat → Int64) → (Nat → Nat) → List ez_C → Prop} (hl : ev_W X m 0 (ez_lay as) [] (ev_hp I J R T) 0 0 (lw_mid T M)) (he : ∀ N, pe N X m as (ev_hp I J R T) (fun _ h => ∀ p, (p < 35 ∨ 65 ≤ p) → p < 65 + T.length → h[p]? = (ev_hp I J R T)[p]?)) (hd : d5 I J) : ev_W X m 0 (ez_lay as) [] (ev_hp I J R T) 0 0 (lw_mid T (fun v I1 J1 R1 T1 => M v I1 J1 R1 T1 ∧ d5 I1 J1)) := by
  refine (W_pe hl he).mono ?_
  rintro r h c k ⟨⟨v, I1, J1, R1, T1, e1, e2, e3, e4, e5, e6⟩, q⟩
  subst e2
  exact ⟨v, I1, J1, R1, T1, e1, rfl, e3, e4, e5, e6, d5_cells (fun p hp => q p (Or.inl hp) (by omega)) hd⟩
theorem r6_vL {M : Int64 → (Nat → Nat → Int32) → (Nat → Nat → Int64) → (Nat → Nat) → List ez_C → Prop} (hl : ev_W X m 0 (ez_lay as) [] (ev_hp I J R T) 0 0 (lw_midL T M)) (hf : d5_fx K.2.1 = true) (hv : cx_valid cx_B0 m K) (hX2 : X.1 < 2 ^ 31) (hh : cx_hok cx_B0 I R T) (hok : cx_ok σ0 K.1 (ez_lay as) [] I T) (hd : d5 I J) : ev_W X m 0 (ez_lay as) [] (ev_hp I J R T) 0 0 (lw_midL T (fun v I1 J1 R1 T1 => M v I1 J1 R1 T1 ∧ d5 I1 J1)) := by
  refine (hl.both (hv X σ0 _ I J R T hX2 hh hok)).mono ?_
  rintro r h c k ⟨⟨v, I1, J1, R1, T1, e1, e2, e3, e4, e5, e6⟩, A, B, R2, T2, q1, -, q3, -⟩
  exact ⟨v, I1, J1, R1, T1, e1, e2, e3, e4, e5, e6, d5_hp (q1.symm.trans e2) (d5_fr hf q3 hd)⟩
theorem r6_mL {M : Int64 → (Nat → Nat → Int32) → (Nat → Nat → Int64) → (Nat → Nat) → List ez_C → Prop} (hl : ev_W X m 0 (ez_lay as) [] (ev_hp I J R T) 0 0 (lw_midL T M)) (he : ∀ N, pe N X m as (ev_hp I J R T) (fun _ h => ∀ p, (p < 35 ∨ 65 ≤ p) → p < 65 + T.length → h[p]? = (ev_hp I J R T)[p]?)) (hd : d5 I J) : ev_W X m 0 (ez_lay as) [] (ev_hp I J R T) 0 0 (lw_midL T (fun v I1 J1 R1 T1 => M v I1 J1 R1 T1 ∧ d5 I1 J1)) := by
  refine (W_pe hl he).mono ?_
  rintro r h c k ⟨⟨v, I1, J1, R1, T1, e1, e2, e3, e4, e5, e6⟩, q⟩
  subst e2
  exact ⟨v, I1, J1, R1, T1, e1, rfl, e3, e4, e5, e6, d5_cells (fun p hp => q p (Or.inl hp) (by omega)) hd⟩
end
section
variable {X : ez_X} {I I1 : Nat → Nat → Int32} {J J1 : Nat → Nat → Int64} {R R1 : Nat → Nat} {T T1 : List ez_C} {v : Int32} {w : Int64}
theorem l6x_grid (hX2 : X.1 < 2 ^ 31) (hh : cx_hok cx_B0 I R T) (hr : rl6 I J R T) (x y z : Int32) (hz : z = 0 ∨ z = 1) : ev_W X 18 0 (ez_lay [.ref 0, .int x, .int y, .int z]) [] (ev_hp I J R T) 0 0 (lw_mid T (fun v I1 J1 R1 T1 => (((mi_k ck_18_0.2.1 (kf_grid x y z) I J v I1 J1 R1 T1 ∧ cp I1 J1 R1 T1) ∧ ∃ K f, C3 K ∧ (∀ j, j < 12 → f j = -1) ∧ ck I1 J1 = fx_grid x y z f K) ∧ d4 I1 J1 R1 T1) ∧ d5 I1 J1)) := r6_w (l4x_grid hX2 hh hr.1 x y z hz) (x6_grid x y z hz) hr.2
theorem l6m_grid (hX2 : X.1 < 2 ^ 31) (hh : cx_hok cx_B0 I R T) (hr : rl6 I J R T) (x y z : Int32) (hz : z = 0 ∨ z = 1) (hh1 : cx_hok cx_B0 I1 R1 T1) (hm : (((mi_k ck_18_0.2.1 (kf_grid x y z) I J v I1 J1 R1 T1 ∧ cp I1 J1 R1 T1) ∧ ∃ K f, C3 K ∧ (∀ j, j < 12 → f j = -1) ∧ ck I1 J1 = fx_grid x y z f K) ∧ d4 I1 J1 R1 T1) ∧ d5 I1 J1) : ev_W X 195 0 (ez_lay [.ref 35, .int x, .int y, .int z]) [] (ev_hp I1 J1 R1 T1) 0 0 (lw_mid T1 (fun u I2 J2 R2 T2 => rl6 I2 J2 R2 T2)) := r6_m (l4m_grid hX2 hh hr.1 x y z hz hh1 hm.1) (fun N => keep_n (N := N) (by decide +kernel)) hm.2
theorem l6x_ship (hX2 : X.1 < 2 ^ 31) (hh : cx_hok cx_B0 I R T) (hr : rl6 I J R T) (x y : Int32) : ev_W X 43 0 (ez_lay [.ref 0, .int x, .int y]) [] (ev_hp I J R T) 0 0 (lw_mid T (fun v I1 J1 R1 T1 => ((((mi_k ck_43_0.2.1 (kf_ship x y) I J v I1 J1 R1 T1 ∧ mi_ship x y I J I1 J1) ∧ cp I1 J1 R1 T1) ∧ C3 (ck I1 J1)) ∧ d4 I1 J1 R1 T1) ∧ d5 I1 J1)) := r6_x (l4x_ship hX2 hh hr.1 x y) (fun N => x6_ship (N := N) hh.1) hr.2
theorem l6m_ship (hX2 : X.1 < 2 ^ 31) (hh : cx_hok cx_B0 I R T) (hr : rl6 I J R T) (x y : Int32) (hh1 : cx_hok cx_B0 I1 R1 T1) (hm : ((((mi_k ck_43_0.2.1 (kf_ship x y) I J v I1 J1 R1 T1 ∧ mi_ship x y I J I1 J1) ∧ cp I1 J1 R1 T1) ∧ C3 (ck I1 J1)) ∧ d4 I1 J1 R1 T1) ∧ d5 I1 J1) : ev_W X 220 0 (ez_lay [.ref 35, .int x, .int y]) [] (ev_hp I1 J1 R1 T1) 0 0 (lw_mid T1 (fun u I2 J2 R2 T2 => rl6 I2 J2 R2 T2)) := r6_m (l4m_ship hX2 hh hr.1 x y hh1 hm.1) (fun N => keep_n (N := N) (by decide +kernel)) hm.2
theorem l6x_set (hX2 : X.1 < 2 ^ 31) (hh : cx_hok cx_B0 I R T) (hr : rl6 I J R T) (x y : Int32) : ev_W X 42 0 (ez_lay [.ref 0, .int x, .int y]) [] (ev_hp I J R T) 0 0 (lw_mid T (fun v I1 J1 R1 T1 => (((mi_k ck_42_0.2.1 (kf_set x y) I J v I1 J1 R1 T1 ∧ cp I1 J1 R1 T1) ∧ C3 (ck I1 J1)) ∧ d4 I1 J1 R1 T1) ∧ d5 I1 J1)) := r6_w (l4x_set hX2 hh hr.1 x y) (x6_set x y) hr.2
theorem l6m_set (hX2 : X.1 < 2 ^ 31) (hh : cx_hok cx_B0 I R T) (hr : rl6 I J R T) (x y : Int32) (hh1 : cx_hok cx_B0 I1 R1 T1) (hm : (((mi_k ck_42_0.2.1 (kf_set x y) I J v I1 J1 R1 T1 ∧ cp I1 J1 R1 T1) ∧ C3 (ck I1 J1)) ∧ d4 I1 J1 R1 T1) ∧ d5 I1 J1) : ev_W X 219 0 (ez_lay [.ref 35, .int x, .int y]) [] (ev_hp I1 J1 R1 T1) 0 0 (lw_mid T1 (fun u I2 J2 R2 T2 => rl6 I2 J2 R2 T2)) := r6_m (l4m_set hX2 hh hr.1 x y hh1 hm.1) (fun N => keep_n (N := N) (by decide +kernel)) hm.2
theorem l6x_drift (hX2 : X.1 < 2 ^ 31) (hh : cx_hok cx_B0 I R T) (hr : rl6 I J R T) (x y : Int32) : ev_W X 16 0 (ez_lay [.ref 0, .int x, .int y]) [] (ev_hp I J R T) 0 0 (lw_mid T (fun v I1 J1 R1 T1 => (((mi_k ck_16_0.2.1 (kf_drift x y) I J v I1 J1 R1 T1 ∧ cp I1 J1 R1 T1) ∧ ∃ K, C3 K ∧ ck I1 J1 = fx_drift x y K) ∧ d4 I1 J1 R1 T1) ∧ d5 I1 J1)) := r6_w (l4x_drift hX2 hh hr.1 x y) (x6_drift x y) hr.2
theorem l6m_drift (hX2 : X.1 < 2 ^ 31) (hh : cx_hok cx_B0 I R T) (hr : rl6 I J R T) (x y : Int32) (hh1 : cx_hok cx_B0 I1 R1 T1) (hm : (((mi_k ck_16_0.2.1 (kf_drift x y) I J v I1 J1 R1 T1 ∧ cp I1 J1 R1 T1) ∧ ∃ K, C3 K ∧ ck I1 J1 = fx_drift x y K) ∧ d4 I1 J1 R1 T1) ∧ d5 I1 J1) : ev_W X 185 0 (ez_lay [.ref 35, .int x, .int y]) [] (ev_hp I1 J1 R1 T1) 0 0 (lw_mid T1 (fun u I2 J2 R2 T2 => rl6 I2 J2 R2 T2)) := r6_m (l4m_drift hX2 hh hr.1 x y hh1 hm.1) (fun N => keep_n (N := N) (by decide +kernel)) hm.2
theorem l6x_spots (hX2 : X.1 < 2 ^ 31) (hh : cx_hok cx_B0 I R T) (hr : rl6 I J R T) (x : Int32) : ev_W X 46 0 (ez_lay [.ref 0, .int x]) [] (ev_hp I J R T) 0 0 (lw_mid T (fun v I1 J1 R1 T1 => ((rl2 I1 J1 R1 T1 ∧ C3 (ck I1 J1)) ∧ d4 I1 J1 R1 T1) ∧ d5 I1 J1)) := r6_v (l4x_spots hX2 hh hr.1 x) (by rfl) cv_46_0 hX2 hh ao_1 hr.2
theorem l6m_spots (hX2 : X.1 < 2 ^ 31) (hh : cx_hok cx_B0 I R T) (hr : rl6 I J R T) (x : Int32) (hh1 : cx_hok cx_B0 I1 R1 T1) (hm : ((rl2 I1 J1 R1 T1 ∧ C3 (ck I1 J1)) ∧ d4 I1 J1 R1 T1) ∧ d5 I1 J1) : ev_W X 223 0 (ez_lay [.ref 35, .int x]) [] (ev_hp I1 J1 R1 T1) 0 0 (lw_mid T1 (fun u I2 J2 R2 T2 => rl6 I2 J2 R2 T2)) := r6_m (l4m_spots hX2 hh hr.1 x hh1 hm.1) (fun N => keep_n (N := N) (by decide +kernel)) hm.2
theorem l6x_spot (hX2 : X.1 < 2 ^ 31) (hh : cx_hok cx_B0 I R T) (hr : rl6 I J R T) (x y : Int32) : ev_W X 44 0 (ez_lay [.ref 0, .int x, .int y]) [] (ev_hp I J R T) 0 0 (lw_midL T (fun v I1 J1 R1 T1 => ((rl2 I1 J1 R1 T1 ∧ C3 (ck I1 J1)) ∧ d4 I1 J1 R1 T1) ∧ d5 I1 J1)) := r6_vL (l4x_spot hX2 hh hr.1 x y) (by rfl) cv_44_0 hX2 hh ao_2 hr.2
theorem l6m_spot (hX2 : X.1 < 2 ^ 31) (hh : cx_hok cx_B0 I R T) (hr : rl6 I J R T) (x y : Int32) (hh1 : cx_hok cx_B0 I1 R1 T1) (hm : ((rl2 I1 J1 R1 T1 ∧ C3 (ck I1 J1)) ∧ d4 I1 J1 R1 T1) ∧ d5 I1 J1) : ev_W X 222 0 (ez_lay [.ref 35, .int x, .int y]) [] (ev_hp I1 J1 R1 T1) 0 0 (lw_midL T1 (fun u I2 J2 R2 T2 => rl6 I2 J2 R2 T2)) := r6_mL (l4m_spot hX2 hh hr.1 x y hh1 hm.1) (fun N => keep_n (N := N) (by decide +kernel)) hm.2
theorem l6x_layings (hX2 : X.1 < 2 ^ 31) (hh : cx_hok cx_B0 I R T) (hr : rl6 I J R T) : ev_W X 27 0 (ez_lay [.ref 0]) [] (ev_hp I J R T) 0 0 (lw_mid T (fun v I1 J1 R1 T1 => ((rl2 I1 J1 R1 T1 ∧ C3 (ck I1 J1)) ∧ d4 I1 J1 R1 T1) ∧ d5 I1 J1)) := r6_v (l4x_layings hX2 hh hr.1) (by rfl) cv_27_0 hX2 hh ao_0 hr.2
theorem l6m_layings (hX2 : X.1 < 2 ^ 31) (hh : cx_hok cx_B0 I R T) (hr : rl6 I J R T) (hh1 : cx_hok cx_B0 I1 R1 T1) (hm : ((rl2 I1 J1 R1 T1 ∧ C3 (ck I1 J1)) ∧ d4 I1 J1 R1 T1) ∧ d5 I1 J1) : ev_W X 206 0 (ez_lay [.ref 35]) [] (ev_hp I1 J1 R1 T1) 0 0 (lw_mid T1 (fun u I2 J2 R2 T2 => rl6 I2 J2 R2 T2)) := r6_m (l4m_layings hX2 hh hr.1 hh1 hm.1) (fun N => keep_n (N := N) (by decide +kernel)) hm.2
theorem l6x_laid (hX2 : X.1 < 2 ^ 31) (hh : cx_hok cx_B0 I R T) (hr : rl6 I J R T) (x y : Int32) : ev_W X 26 0 (ez_lay [.ref 0, .int x, .int y]) [] (ev_hp I J R T) 0 0 (lw_mid T (fun v I1 J1 R1 T1 => ((rl2 I1 J1 R1 T1 ∧ C3 (ck I1 J1)) ∧ d4 I1 J1 R1 T1) ∧ d5 I1 J1)) := r6_v (l4x_laid hX2 hh hr.1 x y) (by rfl) cv_26_0 hX2 hh ao_2 hr.2
theorem l6m_laid (hX2 : X.1 < 2 ^ 31) (hh : cx_hok cx_B0 I R T) (hr : rl6 I J R T) (x y : Int32) (hh1 : cx_hok cx_B0 I1 R1 T1) (hm : ((rl2 I1 J1 R1 T1 ∧ C3 (ck I1 J1)) ∧ d4 I1 J1 R1 T1) ∧ d5 I1 J1) : ev_W X 205 0 (ez_lay [.ref 35, .int x, .int y]) [] (ev_hp I1 J1 R1 T1) 0 0 (lw_mid T1 (fun u I2 J2 R2 T2 => rl6 I2 J2 R2 T2)) := r6_m (l4m_laid hX2 hh hr.1 x y hh1 hm.1) (fun N => keep_n (N := N) (by decide +kernel)) hm.2
theorem l6x_call (hX2 : X.1 < 2 ^ 31) (hh : cx_hok cx_B0 I R T) (hr : rl6 I J R T) (x : Int32) : ev_W X 10 0 (ez_lay [.ref 0, .int x]) [] (ev_hp I J R T) 0 0 (lw_mid T (fun v I1 J1 R1 T1 => (((mi_k ck_10_0.2.1 (kf_call x) I J v I1 J1 R1 T1 ∧ cp I1 J1 R1 T1) ∧ ∃ K, C3 K ∧ ck I1 J1 = fx_call x K) ∧ d4 I1 J1 R1 T1) ∧ d5 I1 J1)) := r6_w (l4x_call hX2 hh hr.1 x) (x6_call x) hr.2
theorem l6m_call (hX2 : X.1 < 2 ^ 31) (hh : cx_hok cx_B0 I R T) (hr : rl6 I J R T) (x : Int32) (hh1 : cx_hok cx_B0 I1 R1 T1) (hm : (((mi_k ck_10_0.2.1 (kf_call x) I J v I1 J1 R1 T1 ∧ cp I1 J1 R1 T1) ∧ ∃ K, C3 K ∧ ck I1 J1 = fx_call x K) ∧ d4 I1 J1 R1 T1) ∧ d5 I1 J1) : ev_W X 175 0 (ez_lay [.ref 35, .int x]) [] (ev_hp I1 J1 R1 T1) 0 0 (lw_mid T1 (fun u I2 J2 R2 T2 => rl6 I2 J2 R2 T2)) := r6_m (l4m_call hX2 hh hr.1 x hh1 hm.1) (fun N => keep_n (N := N) (by decide +kernel)) hm.2
theorem l6x_salvo (hX2 : X.1 < 2 ^ 31) (hh : cx_hok cx_B0 I R T) (hr : rl6 I J R T) (x y : Int32) : ev_W X 41 0 (ez_lay [.ref 0, .int x, .int y]) [] (ev_hp I J R T) 0 0 (lw_mid T (fun v I1 J1 R1 T1 => (((mi_k ck_41_0.2.1 (kf_salvo x y) I J v I1 J1 R1 T1 ∧ cp I1 J1 R1 T1) ∧ ∃ K, C3 K ∧ ck I1 J1 = fx_salvo x y K) ∧ d4 I1 J1 R1 T1) ∧ d5 I1 J1)) := r6_w (l4x_salvo hX2 hh hr.1 x y) (x6_salvo x y) hr.2
theorem l6m_salvo (hX2 : X.1 < 2 ^ 31) (hh : cx_hok cx_B0 I R T) (hr : rl6 I J R T) (x y : Int32) (hh1 : cx_hok cx_B0 I1 R1 T1) (hm : (((mi_k ck_41_0.2.1 (kf_salvo x y) I J v I1 J1 R1 T1 ∧ cp I1 J1 R1 T1) ∧ ∃ K, C3 K ∧ ck I1 J1 = fx_salvo x y K) ∧ d4 I1 J1 R1 T1) ∧ d5 I1 J1) : ev_W X 218 0 (ez_lay [.ref 35, .int x, .int y]) [] (ev_hp I1 J1 R1 T1) 0 0 (lw_mid T1 (fun u I2 J2 R2 T2 => rl6 I2 J2 R2 T2)) := r6_m (l4m_salvo hX2 hh hr.1 x y hh1 hm.1) (fun N => keep_n (N := N) (by decide +kernel)) hm.2
theorem l6x_answer (hX2 : X.1 < 2 ^ 31) (hh : cx_hok cx_B0 I R T) (hr : rl6 I J R T) (x y : Int32) : ev_W X 1 0 (ez_lay [.ref 0, .int x, .int y]) [] (ev_hp I J R T) 0 0 (lw_mid T (fun v I1 J1 R1 T1 => ((rl2 I1 J1 R1 T1 ∧ ∃ K, C3 K ∧ ck I1 J1 = fx_answer x y K) ∧ d4 I1 J1 R1 T1) ∧ d5 I1 J1)) := r6_w (l4x_answer hX2 hh hr.1 x y) (x6_answer x y) hr.2
theorem l6m_answer (hX2 : X.1 < 2 ^ 31) (hh : cx_hok cx_B0 I R T) (hr : rl6 I J R T) (x y : Int32) (hh1 : cx_hok cx_B0 I1 R1 T1) (hm : ((rl2 I1 J1 R1 T1 ∧ ∃ K, C3 K ∧ ck I1 J1 = fx_answer x y K) ∧ d4 I1 J1 R1 T1) ∧ d5 I1 J1) : ev_W X 166 0 (ez_lay [.ref 35, .int x, .int y]) [] (ev_hp I1 J1 R1 T1) 0 0 (lw_mid T1 (fun u I2 J2 R2 T2 => rl6 I2 J2 R2 T2)) := r6_m (l4m_answer hX2 hh hr.1 x y hh1 hm.1) (fun N => keep_n (N := N) (by decide +kernel)) hm.2
theorem l6x_lose (hX2 : X.1 < 2 ^ 31) (hh : cx_hok cx_B0 I R T) (hr : rl6 I J R T) (x : Int32) : ev_W X 32 0 (ez_lay [.ref 0, .int x]) [] (ev_hp I J R T) 0 0 (lw_mid T (fun v I1 J1 R1 T1 => ((rl2 I1 J1 R1 T1 ∧ ∃ K, C3 K ∧ ck I1 J1 = fx_lose x K) ∧ d4 I1 J1 R1 T1) ∧ d5 I1 J1)) := r6_w (l4x_lose hX2 hh hr.1 x) (x6_lose x) hr.2
theorem l6m_lose (hX2 : X.1 < 2 ^ 31) (hh : cx_hok cx_B0 I R T) (hr : rl6 I J R T) (x : Int32) (hh1 : cx_hok cx_B0 I1 R1 T1) (hm : ((rl2 I1 J1 R1 T1 ∧ ∃ K, C3 K ∧ ck I1 J1 = fx_lose x K) ∧ d4 I1 J1 R1 T1) ∧ d5 I1 J1) : ev_W X 209 0 (ez_lay [.ref 35, .int x]) [] (ev_hp I1 J1 R1 T1) 0 0 (lw_mid T1 (fun u I2 J2 R2 T2 => rl6 I2 J2 R2 T2)) := r6_m (l4m_lose hX2 hh hr.1 x hh1 hm.1) (fun N => keep_n (N := N) (by decide +kernel)) hm.2
theorem l6x_back (hX2 : X.1 < 2 ^ 31) (hh : cx_hok cx_B0 I R T) (hr : rl6 I J R T) : ev_W X 5 0 (ez_lay [.ref 0]) [] (ev_hp I J R T) 0 0 (lw_mid T (fun v I1 J1 R1 T1 => (((mi_k ck_5_0.2.1 kf_back I J v I1 J1 R1 T1 ∧ cp I1 J1 R1 T1) ∧ ∃ K, C3 K ∧ ck I1 J1 = fx_back K) ∧ d4 I1 J1 R1 T1) ∧ d5 I1 J1)) := r6_w (l4x_back hX2 hh hr.1) x6_back hr.2
theorem l6m_back (hX2 : X.1 < 2 ^ 31) (hh : cx_hok cx_B0 I R T) (hr : rl6 I J R T) (hh1 : cx_hok cx_B0 I1 R1 T1) (hm : (((mi_k ck_5_0.2.1 kf_back I J v I1 J1 R1 T1 ∧ cp I1 J1 R1 T1) ∧ ∃ K, C3 K ∧ ck I1 J1 = fx_back K) ∧ d4 I1 J1 R1 T1) ∧ d5 I1 J1) : ev_W X 168 0 (ez_lay [.ref 35]) [] (ev_hp I1 J1 R1 T1) 0 0 (lw_mid T1 (fun u I2 J2 R2 T2 => rl6 I2 J2 R2 T2)) := r6_m (l4m_back hX2 hh hr.1 hh1 hm.1) (fun N => keep_n (N := N) (by decide +kernel)) hm.2
theorem l6x_truth (hX2 : X.1 < 2 ^ 31) (hh : cx_hok cx_B0 I R T) (hr : rl6 I J R T) (x y : Int32) : ev_W X 53 0 (ez_lay [.ref 0, .int x, .int y]) [] (ev_hp I J R T) 0 0 (lw_mid T (fun v I1 J1 R1 T1 => ((rl2 I1 J1 R1 T1 ∧ C3 (ck I1 J1)) ∧ d4 I1 J1 R1 T1) ∧ d5 I1 J1)) := r6_v (l4x_truth hX2 hh hr.1 x y) (by rfl) cv_53_0 hX2 hh ao_2 hr.2
theorem l6m_truth (hX2 : X.1 < 2 ^ 31) (hh : cx_hok cx_B0 I R T) (hr : rl6 I J R T) (x y : Int32) (hh1 : cx_hok cx_B0 I1 R1 T1) (hm : ((rl2 I1 J1 R1 T1 ∧ C3 (ck I1 J1)) ∧ d4 I1 J1 R1 T1) ∧ d5 I1 J1) : ev_W X 229 0 (ez_lay [.ref 35, .int x, .int y]) [] (ev_hp I1 J1 R1 T1) 0 0 (lw_mid T1 (fun u I2 J2 R2 T2 => rl6 I2 J2 R2 T2)) := r6_m (l4m_truth hX2 hh hr.1 x y hh1 hm.1) (fun N => keep_n (N := N) (by decide +kernel)) hm.2
theorem l6x_lies (hX2 : X.1 < 2 ^ 31) (hh : cx_hok cx_B0 I R T) (hr : rl6 I J R T) (x y z : Int32) : ev_W X 31 0 (ez_lay [.ref 0, .int x, .int y, .int z]) [] (ev_hp I J R T) 0 0 (lw_midL T (fun v I1 J1 R1 T1 => ((rl2 I1 J1 R1 T1 ∧ C3 (ck I1 J1)) ∧ d4 I1 J1 R1 T1) ∧ d5 I1 J1)) := r6_vL (l4x_lies hX2 hh hr.1 x y z) (by rfl) cv_31_0 hX2 hh ao_3 hr.2
theorem l6m_lies (hX2 : X.1 < 2 ^ 31) (hh : cx_hok cx_B0 I R T) (hr : rl6 I J R T) (x y z : Int32) (hh1 : cx_hok cx_B0 I1 R1 T1) (hm : ((rl2 I1 J1 R1 T1 ∧ C3 (ck I1 J1)) ∧ d4 I1 J1 R1 T1) ∧ d5 I1 J1) : ev_W X 208 0 (ez_lay [.ref 35, .int x, .int y, .int z]) [] (ev_hp I1 J1 R1 T1) 0 0 (lw_midL T1 (fun u I2 J2 R2 T2 => rl6 I2 J2 R2 T2)) := r6_mL (l4m_lies hX2 hh hr.1 x y z hh1 hm.1) (fun N => keep_n (N := N) (by decide +kernel)) hm.2
theorem l6x_left (hX2 : X.1 < 2 ^ 31) (hh : cx_hok cx_B0 I R T) (hr : rl6 I J R T) : ev_W X 29 0 (ez_lay [.ref 0]) [] (ev_hp I J R T) 0 0 (lw_mid T (fun v I1 J1 R1 T1 => ((rl2 I1 J1 R1 T1 ∧ C3 (ck I1 J1)) ∧ d4 I1 J1 R1 T1) ∧ d5 I1 J1)) := r6_v (l4x_left hX2 hh hr.1) (by rfl) cv_29_0 hX2 hh ao_0 hr.2
theorem l6m_left (hX2 : X.1 < 2 ^ 31) (hh : cx_hok cx_B0 I R T) (hr : rl6 I J R T) (hh1 : cx_hok cx_B0 I1 R1 T1) (hm : ((rl2 I1 J1 R1 T1 ∧ C3 (ck I1 J1)) ∧ d4 I1 J1 R1 T1) ∧ d5 I1 J1) : ev_W X 207 0 (ez_lay [.ref 35]) [] (ev_hp I1 J1 R1 T1) 0 0 (lw_mid T1 (fun u I2 J2 R2 T2 => rl6 I2 J2 R2 T2)) := r6_m (l4m_left hX2 hh hr.1 hh1 hm.1) (fun N => keep_n (N := N) (by decide +kernel)) hm.2
theorem l6x_which (hX2 : X.1 < 2 ^ 31) (hh : cx_hok cx_B0 I R T) (hr : rl6 I J R T) (x : Int32) : ev_W X 54 0 (ez_lay [.ref 0, .int x]) [] (ev_hp I J R T) 0 0 (lw_mid T (fun v I1 J1 R1 T1 => ((rl2 I1 J1 R1 T1 ∧ C3 (ck I1 J1)) ∧ d4 I1 J1 R1 T1) ∧ d5 I1 J1)) := r6_v (l4x_which hX2 hh hr.1 x) (by rfl) cv_54_0 hX2 hh ao_1 hr.2
theorem l6m_which (hX2 : X.1 < 2 ^ 31) (hh : cx_hok cx_B0 I R T) (hr : rl6 I J R T) (x : Int32) (hh1 : cx_hok cx_B0 I1 R1 T1) (hm : ((rl2 I1 J1 R1 T1 ∧ C3 (ck I1 J1)) ∧ d4 I1 J1 R1 T1) ∧ d5 I1 J1) : ev_W X 232 0 (ez_lay [.ref 35, .int x]) [] (ev_hp I1 J1 R1 T1) 0 0 (lw_mid T1 (fun u I2 J2 R2 T2 => rl6 I2 J2 R2 T2)) := r6_m (l4m_which hX2 hh hr.1 x hh1 hm.1) (fun N => keep_n (N := N) (by decide +kernel)) hm.2
theorem l6x_there (hX2 : X.1 < 2 ^ 31) (hh : cx_hok cx_B0 I R T) (hr : rl6 I J R T) (x : Int32) : ev_W X 51 0 (ez_lay [.ref 0, .int x]) [] (ev_hp I J R T) 0 0 (lw_mid T (fun v I1 J1 R1 T1 => ((rl2 I1 J1 R1 T1 ∧ C3 (ck I1 J1)) ∧ d4 I1 J1 R1 T1) ∧ d5 I1 J1)) := r6_v (l4x_there hX2 hh hr.1 x) (by rfl) cv_51_0 hX2 hh ao_1 hr.2
theorem l6m_there (hX2 : X.1 < 2 ^ 31) (hh : cx_hok cx_B0 I R T) (hr : rl6 I J R T) (x : Int32) (hh1 : cx_hok cx_B0 I1 R1 T1) (hm : ((rl2 I1 J1 R1 T1 ∧ C3 (ck I1 J1)) ∧ d4 I1 J1 R1 T1) ∧ d5 I1 J1) : ev_W X 227 0 (ez_lay [.ref 35, .int x]) [] (ev_hp I1 J1 R1 T1) 0 0 (lw_mid T1 (fun u I2 J2 R2 T2 => rl6 I2 J2 R2 T2)) := r6_m (l4m_there hX2 hh hr.1 x hh1 hm.1) (fun N => keep_n (N := N) (by decide +kernel)) hm.2
theorem l6x_sure (hX2 : X.1 < 2 ^ 31) (hh : cx_hok cx_B0 I R T) (hr : rl6 I J R T) (x : Int32) : ev_W X 48 0 (ez_lay [.ref 0, .int x]) [] (ev_hp I J R T) 0 0 (lw_midL T (fun v I1 J1 R1 T1 => ((rl2 I1 J1 R1 T1 ∧ C3 (ck I1 J1)) ∧ d4 I1 J1 R1 T1) ∧ d5 I1 J1)) := r6_vL (l4x_sure hX2 hh hr.1 x) (by rfl) cv_48_0 hX2 hh ao_1 hr.2
theorem l6m_sure (hX2 : X.1 < 2 ^ 31) (hh : cx_hok cx_B0 I R T) (hr : rl6 I J R T) (x : Int32) (hh1 : cx_hok cx_B0 I1 R1 T1) (hm : ((rl2 I1 J1 R1 T1 ∧ C3 (ck I1 J1)) ∧ d4 I1 J1 R1 T1) ∧ d5 I1 J1) : ev_W X 225 0 (ez_lay [.ref 35, .int x]) [] (ev_hp I1 J1 R1 T1) 0 0 (lw_midL T1 (fun u I2 J2 R2 T2 => rl6 I2 J2 R2 T2)) := r6_mL (l4m_sure hX2 hh hr.1 x hh1 hm.1) (fun N => keep_n (N := N) (by decide +kernel)) hm.2
theorem l6x_part (hX2 : X.1 < 2 ^ 31) (hh : cx_hok cx_B0 I R T) (hr : rl6 I J R T) (x y : Int32) : ev_W X 37 0 (ez_lay [.ref 0, .int x, .int y]) [] (ev_hp I J R T) 0 0 (lw_mid T (fun v I1 J1 R1 T1 => ((rl2 I1 J1 R1 T1 ∧ C3 (ck I1 J1)) ∧ d4 I1 J1 R1 T1) ∧ d5 I1 J1)) := r6_v (l4x_part hX2 hh hr.1 x y) (by rfl) cv_37_0 hX2 hh ao_2 hr.2
theorem l6m_part (hX2 : X.1 < 2 ^ 31) (hh : cx_hok cx_B0 I R T) (hr : rl6 I J R T) (x y : Int32) (hh1 : cx_hok cx_B0 I1 R1 T1) (hm : ((rl2 I1 J1 R1 T1 ∧ C3 (ck I1 J1)) ∧ d4 I1 J1 R1 T1) ∧ d5 I1 J1) : ev_W X 214 0 (ez_lay [.ref 35, .int x, .int y]) [] (ev_hp I1 J1 R1 T1) 0 0 (lw_mid T1 (fun u I2 J2 R2 T2 => rl6 I2 J2 R2 T2)) := r6_m (l4m_part hX2 hh hr.1 x y hh1 hm.1) (fun N => keep_n (N := N) (by decide +kernel)) hm.2
theorem l6x_best (hX2 : X.1 < 2 ^ 31) (hh : cx_hok cx_B0 I R T) (hr : rl6 I J R T) (x : Int32) : ev_W X 6 0 (ez_lay [.ref 0, .int x]) [] (ev_hp I J R T) 0 0 (lw_mid T (fun v I1 J1 R1 T1 => ((rl2 I1 J1 R1 T1 ∧ C3 (ck I1 J1)) ∧ d4 I1 J1 R1 T1) ∧ d5 I1 J1)) := r6_v (l4x_best hX2 hh hr.1 x) (by rfl) cv_6_0 hX2 hh ao_1 hr.2
theorem l6m_best (hX2 : X.1 < 2 ^ 31) (hh : cx_hok cx_B0 I R T) (hr : rl6 I J R T) (x : Int32) (hh1 : cx_hok cx_B0 I1 R1 T1) (hm : ((rl2 I1 J1 R1 T1 ∧ C3 (ck I1 J1)) ∧ d4 I1 J1 R1 T1) ∧ d5 I1 J1) : ev_W X 169 0 (ez_lay [.ref 35, .int x]) [] (ev_hp I1 J1 R1 T1) 0 0 (lw_mid T1 (fun u I2 J2 R2 T2 => rl6 I2 J2 R2 T2)) := r6_m (l4m_best hX2 hh hr.1 x hh1 hm.1) (fun N => keep_n (N := N) (by decide +kernel)) hm.2
theorem l6x_bestSalvo (hX2 : X.1 < 2 ^ 31) (hh : cx_hok cx_B0 I R T) (hr : rl6 I J R T) (x : Int32) : ev_W X 7 0 (ez_lay [.ref 0, .int x]) [] (ev_hp I J R T) 0 0 (lw_mid T (fun v I1 J1 R1 T1 => ((rl2 I1 J1 R1 T1 ∧ C3 (ck I1 J1)) ∧ d4 I1 J1 R1 T1) ∧ d5 I1 J1)) := r6_f (l4x_bestSalvo hX2 hh hr.1 x) (fun N => pe_mono (pe_xbestSalvo3 (N := N) hr.1.1 hr.1.2 hr.2 hh) fun _ _ q => q.2)
theorem l6m_bestSalvo (hX2 : X.1 < 2 ^ 31) (hh : cx_hok cx_B0 I R T) (hr : rl6 I J R T) (x : Int32) (hh1 : cx_hok cx_B0 I1 R1 T1) (hm : ((rl2 I1 J1 R1 T1 ∧ C3 (ck I1 J1)) ∧ d4 I1 J1 R1 T1) ∧ d5 I1 J1) : ev_W X 170 0 (ez_lay [.ref 35, .int x]) [] (ev_hp I1 J1 R1 T1) 0 0 (lw_mid T1 (fun u I2 J2 R2 T2 => rl6 I2 J2 R2 T2)) := r6_m (l4m_bestSalvo hX2 hh hr.1 x hh1 hm.1) (fun N => keep_n (N := N) (by decide +kernel)) hm.2
theorem l6x_need (hX2 : X.1 < 2 ^ 31) (hh : cx_hok cx_B0 I R T) (hr : rl6 I J R T) (x : Int32) : ev_W X 34 0 (ez_lay [.ref 0, .int x]) [] (ev_hp I J R T) 0 0 (lw_mid T (fun v I1 J1 R1 T1 => ((rl2 I1 J1 R1 T1 ∧ C3 (ck I1 J1)) ∧ d4 I1 J1 R1 T1) ∧ d5 I1 J1)) := r6_v (l4x_need hX2 hh hr.1 x) (by rfl) cv_34_0 hX2 hh ao_1 hr.2
theorem l6m_need (hX2 : X.1 < 2 ^ 31) (hh : cx_hok cx_B0 I R T) (hr : rl6 I J R T) (x : Int32) (hh1 : cx_hok cx_B0 I1 R1 T1) (hm : ((rl2 I1 J1 R1 T1 ∧ C3 (ck I1 J1)) ∧ d4 I1 J1 R1 T1) ∧ d5 I1 J1) : ev_W X 212 0 (ez_lay [.ref 35, .int x]) [] (ev_hp I1 J1 R1 T1) 0 0 (lw_mid T1 (fun u I2 J2 R2 T2 => rl6 I2 J2 R2 T2)) := r6_m (l4m_need hX2 hh hr.1 x hh1 hm.1) (fun N => keep_n (N := N) (by decide +kernel)) hm.2
theorem l6x_calls (hX2 : X.1 < 2 ^ 31) (hh : cx_hok cx_B0 I R T) (hr : rl6 I J R T) (x y : Int32) : ev_W X 11 0 (ez_lay [.ref 0, .int x, .int y]) [] (ev_hp I J R T) 0 0 (lw_mid T (fun v I1 J1 R1 T1 => ((rl2 I1 J1 R1 T1 ∧ C3 (ck I1 J1)) ∧ d4 I1 J1 R1 T1) ∧ d5 I1 J1)) := r6_v (l4x_calls hX2 hh hr.1 x y) (by rfl) cv_11_0 hX2 hh ao_2 hr.2
theorem l6m_calls (hX2 : X.1 < 2 ^ 31) (hh : cx_hok cx_B0 I R T) (hr : rl6 I J R T) (x y : Int32) (hh1 : cx_hok cx_B0 I1 R1 T1) (hm : ((rl2 I1 J1 R1 T1 ∧ C3 (ck I1 J1)) ∧ d4 I1 J1 R1 T1) ∧ d5 I1 J1) : ev_W X 178 0 (ez_lay [.ref 35, .int x, .int y]) [] (ev_hp I1 J1 R1 T1) 0 0 (lw_mid T1 (fun u I2 J2 R2 T2 => rl6 I2 J2 R2 T2)) := r6_m (l4m_calls hX2 hh hr.1 x y hh1 hm.1) (fun N => keep_n (N := N) (by decide +kernel)) hm.2
theorem l6x_hardest (hX2 : X.1 < 2 ^ 31) (hh : cx_hok cx_B0 I R T) (hr : rl6 I J R T) (x : Int32) : ev_W X 20 0 (ez_lay [.ref 0, .int x]) [] (ev_hp I J R T) 0 0 (lw_mid T (fun v I1 J1 R1 T1 => ((rl2 I1 J1 R1 T1 ∧ C3 (ck I1 J1)) ∧ d4 I1 J1 R1 T1) ∧ d5 I1 J1)) := r6_v (l4x_hardest hX2 hh hr.1 x) (by rfl) cv_20_0 hX2 hh ao_1 hr.2
theorem l6m_hardest (hX2 : X.1 < 2 ^ 31) (hh : cx_hok cx_B0 I R T) (hr : rl6 I J R T) (x : Int32) (hh1 : cx_hok cx_B0 I1 R1 T1) (hm : ((rl2 I1 J1 R1 T1 ∧ C3 (ck I1 J1)) ∧ d4 I1 J1 R1 T1) ∧ d5 I1 J1) : ev_W X 196 0 (ez_lay [.ref 35, .int x]) [] (ev_hp I1 J1 R1 T1) 0 0 (lw_mid T1 (fun u I2 J2 R2 T2 => rl6 I2 J2 R2 T2)) := r6_m (l4m_hardest hX2 hh hr.1 x hh1 hm.1) (fun N => keep_n (N := N) (by decide +kernel)) hm.2
theorem l6x_stray (hX2 : X.1 < 2 ^ 31) (hh : cx_hok cx_B0 I R T) (hr : rl6 I J R T) : ev_W X 47 0 (ez_lay [.ref 0]) [] (ev_hp I J R T) 0 0 (lw_mid T (fun v I1 J1 R1 T1 => ((rl2 I1 J1 R1 T1 ∧ C3 (ck I1 J1)) ∧ d4 I1 J1 R1 T1) ∧ d5 I1 J1)) := r6_v (l4x_stray hX2 hh hr.1) (by rfl) cv_47_0 hX2 hh ao_0 hr.2
theorem l6m_stray (hX2 : X.1 < 2 ^ 31) (hh : cx_hok cx_B0 I R T) (hr : rl6 I J R T) (hh1 : cx_hok cx_B0 I1 R1 T1) (hm : ((rl2 I1 J1 R1 T1 ∧ C3 (ck I1 J1)) ∧ d4 I1 J1 R1 T1) ∧ d5 I1 J1) : ev_W X 224 0 (ez_lay [.ref 35]) [] (ev_hp I1 J1 R1 T1) 0 0 (lw_mid T1 (fun u I2 J2 R2 T2 => rl6 I2 J2 R2 T2)) := r6_m (l4m_stray hX2 hh hr.1 hh1 hm.1) (fun N => keep_n (N := N) (by decide +kernel)) hm.2
theorem l6x_blame (hX2 : X.1 < 2 ^ 31) (hh : cx_hok cx_B0 I R T) (hr : rl6 I J R T) : ev_W X 8 0 (ez_lay [.ref 0]) [] (ev_hp I J R T) 0 0 (lw_mid T (fun v I1 J1 R1 T1 => ((rl2 I1 J1 R1 T1 ∧ C3 (ck I1 J1)) ∧ d4 I1 J1 R1 T1) ∧ d5 I1 J1)) := r6_v (l4x_blame hX2 hh hr.1) (by rfl) cv_8_0 hX2 hh ao_0 hr.2
theorem l6m_blame (hX2 : X.1 < 2 ^ 31) (hh : cx_hok cx_B0 I R T) (hr : rl6 I J R T) (hh1 : cx_hok cx_B0 I1 R1 T1) (hm : ((rl2 I1 J1 R1 T1 ∧ C3 (ck I1 J1)) ∧ d4 I1 J1 R1 T1) ∧ d5 I1 J1) : ev_W X 172 0 (ez_lay [.ref 35]) [] (ev_hp I1 J1 R1 T1) 0 0 (lw_mid T1 (fun u I2 J2 R2 T2 => rl6 I2 J2 R2 T2)) := r6_m (l4m_blame hX2 hh hr.1 hh1 hm.1) (fun N => keep_n (N := N) (by decide +kernel)) hm.2
theorem l6x_blamed (hX2 : X.1 < 2 ^ 31) (hh : cx_hok cx_B0 I R T) (hr : rl6 I J R T) : ev_W X 9 0 (ez_lay [.ref 0]) [] (ev_hp I J R T) 0 0 (lw_mid T (fun v I1 J1 R1 T1 => ((rl2 I1 J1 R1 T1 ∧ C3 (ck I1 J1)) ∧ d4 I1 J1 R1 T1) ∧ d5 I1 J1)) := r6_v (l4x_blamed hX2 hh hr.1) (by rfl) cv_9_0 hX2 hh ao_0 hr.2
theorem l6m_blamed (hX2 : X.1 < 2 ^ 31) (hh : cx_hok cx_B0 I R T) (hr : rl6 I J R T) (hh1 : cx_hok cx_B0 I1 R1 T1) (hm : ((rl2 I1 J1 R1 T1 ∧ C3 (ck I1 J1)) ∧ d4 I1 J1 R1 T1) ∧ d5 I1 J1) : ev_W X 174 0 (ez_lay [.ref 35]) [] (ev_hp I1 J1 R1 T1) 0 0 (lw_mid T1 (fun u I2 J2 R2 T2 => rl6 I2 J2 R2 T2)) := r6_m (l4m_blamed hX2 hh hr.1 hh1 hm.1) (fun N => keep_n (N := N) (by decide +kernel)) hm.2
theorem l6x_switched (hX2 : X.1 < 2 ^ 31) (hh : cx_hok cx_B0 I R T) (hr : rl6 I J R T) (x : Int32) : ev_W X 50 0 (ez_lay [.ref 0, .int x]) [] (ev_hp I J R T) 0 0 (lw_mid T (fun v I1 J1 R1 T1 => ((rl2 I1 J1 R1 T1 ∧ C3 (ck I1 J1)) ∧ d4 I1 J1 R1 T1) ∧ d5 I1 J1)) := r6_v (l4x_switched hX2 hh hr.1 x) (by rfl) cv_50_0 hX2 hh ao_1 hr.2
theorem l6m_switched (hX2 : X.1 < 2 ^ 31) (hh : cx_hok cx_B0 I R T) (hr : rl6 I J R T) (x : Int32) (hh1 : cx_hok cx_B0 I1 R1 T1) (hm : ((rl2 I1 J1 R1 T1 ∧ C3 (ck I1 J1)) ∧ d4 I1 J1 R1 T1) ∧ d5 I1 J1) : ev_W X 226 0 (ez_lay [.ref 35, .int x]) [] (ev_hp I1 J1 R1 T1) 0 0 (lw_mid T1 (fun u I2 J2 R2 T2 => rl6 I2 J2 R2 T2)) := r6_m (l4m_switched hX2 hh hr.1 x hh1 hm.1) (fun N => keep_n (N := N) (by decide +kernel)) hm.2
theorem l6x_count (hX2 : X.1 < 2 ^ 31) (hh : cx_hok cx_B0 I R T) (hr : rl6 I J R T) (x y : Int32) : ev_W X 14 0 (ez_lay [.ref 0, .int x, .int y]) [] (ev_hp I J R T) 0 0 (lw_mid T (fun v I1 J1 R1 T1 => (((mi_k ck_14_0.2.1 (kf_count x y) I J v I1 J1 R1 T1 ∧ cp I1 J1 R1 T1) ∧ ∃ K, C3 K ∧ ck I1 J1 = fx_count x y K) ∧ d4 I1 J1 R1 T1) ∧ d5 I1 J1)) := r6_v (l4x_count hX2 hh hr.1 x y) (by rfl) cv_14_0 hX2 hh ao_2 hr.2
theorem l6m_count (hX2 : X.1 < 2 ^ 31) (hh : cx_hok cx_B0 I R T) (hr : rl6 I J R T) (x y : Int32) (hh1 : cx_hok cx_B0 I1 R1 T1) (hm : (((mi_k ck_14_0.2.1 (kf_count x y) I J v I1 J1 R1 T1 ∧ cp I1 J1 R1 T1) ∧ ∃ K, C3 K ∧ ck I1 J1 = fx_count x y K) ∧ d4 I1 J1 R1 T1) ∧ d5 I1 J1) : ev_W X 182 0 (ez_lay [.ref 35, .int x, .int y]) [] (ev_hp I1 J1 R1 T1) 0 0 (lw_mid T1 (fun u I2 J2 R2 T2 => rl6 I2 J2 R2 T2)) := r6_m (l4m_count hX2 hh hr.1 x y hh1 hm.1) (fun N => keep_n (N := N) (by decide +kernel)) hm.2
theorem l6x_rim (hX2 : X.1 < 2 ^ 31) (hh : cx_hok cx_B0 I R T) (hr : rl6 I J R T) (x y : Int32) : ev_W X 40 0 (ez_lay [.ref 0, .int x, .int y]) [] (ev_hp I J R T) 0 0 (lw_mid T (fun v I1 J1 R1 T1 => ((rl2 I1 J1 R1 T1 ∧ C3 (ck I1 J1)) ∧ d4 I1 J1 R1 T1) ∧ d5 I1 J1)) := r6_v (l4x_rim hX2 hh hr.1 x y) (by rfl) cv_40_0 hX2 hh ao_2 hr.2
theorem l6m_rim (hX2 : X.1 < 2 ^ 31) (hh : cx_hok cx_B0 I R T) (hr : rl6 I J R T) (x y : Int32) (hh1 : cx_hok cx_B0 I1 R1 T1) (hm : ((rl2 I1 J1 R1 T1 ∧ C3 (ck I1 J1)) ∧ d4 I1 J1 R1 T1) ∧ d5 I1 J1) : ev_W X 217 0 (ez_lay [.ref 35, .int x, .int y]) [] (ev_hp I1 J1 R1 T1) 0 0 (lw_mid T1 (fun u I2 J2 R2 T2 => rl6 I2 J2 R2 T2)) := r6_m (l4m_rim hX2 hh hr.1 x y hh1 hm.1) (fun N => keep_n (N := N) (by decide +kernel)) hm.2
theorem l6x_fitting (hX2 : X.1 < 2 ^ 31) (hh : cx_hok cx_B0 I R T) (hr : rl6 I J R T) : ev_W X 17 0 (ez_lay [.ref 0]) [] (ev_hp I J R T) 0 0 (lw_mid T (fun v I1 J1 R1 T1 => ((rl2 I1 J1 R1 T1 ∧ C3 (ck I1 J1)) ∧ d4 I1 J1 R1 T1) ∧ d5 I1 J1)) := r6_v (l4x_fitting hX2 hh hr.1) (by rfl) cv_17_0 hX2 hh ao_0 hr.2
theorem l6m_fitting (hX2 : X.1 < 2 ^ 31) (hh : cx_hok cx_B0 I R T) (hr : rl6 I J R T) (hh1 : cx_hok cx_B0 I1 R1 T1) (hm : ((rl2 I1 J1 R1 T1 ∧ C3 (ck I1 J1)) ∧ d4 I1 J1 R1 T1) ∧ d5 I1 J1) : ev_W X 191 0 (ez_lay [.ref 35]) [] (ev_hp I1 J1 R1 T1) 0 0 (lw_mid T1 (fun u I2 J2 R2 T2 => rl6 I2 J2 R2 T2)) := r6_m (l4m_fitting hX2 hh hr.1 hh1 hm.1) (fun N => keep_n (N := N) (by decide +kernel)) hm.2
theorem l6x_clues (hX2 : X.1 < 2 ^ 31) (hh : cx_hok cx_B0 I R T) (hr : rl6 I J R T) (x : Int32) : ev_W X 13 0 (ez_lay [.ref 0, .int x]) [] (ev_hp I J R T) 0 0 (lw_mid T (fun v I1 J1 R1 T1 => ((rl2 I1 J1 R1 T1 ∧ C3 (ck I1 J1)) ∧ d4 I1 J1 R1 T1) ∧ d5 I1 J1)) := r6_v (l4x_clues hX2 hh hr.1 x) (by rfl) cv_13_0 hX2 hh ao_1 hr.2
theorem l6m_clues (hX2 : X.1 < 2 ^ 31) (hh : cx_hok cx_B0 I R T) (hr : rl6 I J R T) (x : Int32) (hh1 : cx_hok cx_B0 I1 R1 T1) (hm : ((rl2 I1 J1 R1 T1 ∧ C3 (ck I1 J1)) ∧ d4 I1 J1 R1 T1) ∧ d5 I1 J1) : ev_W X 181 0 (ez_lay [.ref 35, .int x]) [] (ev_hp I1 J1 R1 T1) 0 0 (lw_mid T1 (fun u I2 J2 R2 T2 => rl6 I2 J2 R2 T2)) := r6_m (l4m_clues hX2 hh hr.1 x hh1 hm.1) (fun N => keep_n (N := N) (by decide +kernel)) hm.2
theorem l6x_many (hX2 : X.1 < 2 ^ 31) (hh : cx_hok cx_B0 I R T) (hr : rl6 I J R T) (x : Int32) : ev_W X 33 0 (ez_lay [.ref 0, .int x]) [] (ev_hp I J R T) 0 0 (lw_mid T (fun v I1 J1 R1 T1 => ((rl2 I1 J1 R1 T1 ∧ C3 (ck I1 J1)) ∧ d4 I1 J1 R1 T1) ∧ d5 I1 J1)) := r6_v (l4x_many hX2 hh hr.1 x) (by rfl) cv_33_0 hX2 hh ao_1 hr.2
theorem l6m_many (hX2 : X.1 < 2 ^ 31) (hh : cx_hok cx_B0 I R T) (hr : rl6 I J R T) (x : Int32) (hh1 : cx_hok cx_B0 I1 R1 T1) (hm : ((rl2 I1 J1 R1 T1 ∧ C3 (ck I1 J1)) ∧ d4 I1 J1 R1 T1) ∧ d5 I1 J1) : ev_W X 210 0 (ez_lay [.ref 35, .int x]) [] (ev_hp I1 J1 R1 T1) 0 0 (lw_mid T1 (fun u I2 J2 R2 T2 => rl6 I2 J2 R2 T2)) := r6_m (l4m_many hX2 hh hr.1 x hh1 hm.1) (fun N => keep_n (N := N) (by decide +kernel)) hm.2
theorem lxc_bestSalvo (hX2 : X.1 < 2 ^ 31) (hh : cx_hok cx_B0 I R T) (hr : rl6 I J R T) (x : Int32) : ev_W X 7 0 (ez_lay [.ref 0, .int x]) [] (ev_hp I J R T) 0 0 (lw_mid T (fun v I1 J1 R1 T1 => v = v_bestSalvo I1 J1 x ∧ rl6 I1 J1 R1 T1)) := by
  refine (lxc_of (l6x_bestSalvo hX2 hh hr x) (fun N => pe_mono (pe_xbestSalvo3 (N := N) hr.1.1 hr.1.2 hr.2 hh) fun _ _ q => q.1) (by rfl) cv_7_0 hX2 hh ao_1).mono (lw_mono fun v I1 J1 R1 T1 q => ⟨?_, q.2.2⟩)
  rw [q.1, v_bestSalvo_b q.2.1]
theorem lmc_bestSalvo (hX2 : X.1 < 2 ^ 31) (hh : cx_hok cx_B0 I R T) (hr : rl6 I J R T) (x : Int32) (hh1 : cx_hok cx_B0 I1 R1 T1) (hm : v = v_bestSalvo I1 J1 x ∧ rl6 I1 J1 R1 T1) : ev_W X 170 0 (ez_lay [.ref 35, .int x]) [] (ev_hp I1 J1 R1 T1) 0 0 (lw_mid T1 (fun u I2 J2 R2 T2 => u = v ∧ rl6 I2 J2 R2 T2)) := by
  refine (lmc_of (l6m_bestSalvo hX2 hh hr x hh1 hm.2) (fun N => pe_mbestSalvo (N := N) hm.2.1.1 hh1.1)).mono (lw_mono fun u I2 J2 R2 T2 q => ⟨?_, q.2⟩)
  rw [q.1, hm.1]
theorem l6_0 (h : rl4 ev_I0 ev_J0 ev_R0 []) : rl6 ev_I0 ev_J0 ev_R0 [] := ⟨h, Or.inl rfl⟩
end
end
