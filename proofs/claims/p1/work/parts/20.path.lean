/-! The machine on one path: at told branches it takes the told way and notes what must hold for that. -/
/-- branches to go before the next told one; the told ones (what, and how many branches to go behind it); what must hold -/
abbrev ez_Q : Type := Nat × List (Nat × Nat) × List Bool
abbrev ez_PO : Type := Option (Option Value × ez_H × Nat × Nat × ez_Q)
abbrev ez_PF : Type := Nat → Nat → List Value → List Value → ez_H → Nat → Nat → ez_Q → ez_PO
def ez_all : List Bool → Prop
  | [] => True
  | b :: t => b = true ∧ ez_all t
def ez_ok (o : ez_Q) : Prop := ez_all o.2.2
def ez_qb : ez_Q → Bool → Bool × ez_Q
  | (n + 1, q, a), t => (t, n, q, a)
  | (0, [], a), t => (t, 0, [], a)
  | (0, (v, n) :: q, a), t => (Nat.beq v 1, n, q, (t == Nat.beq v 1) :: a)
def ez_qs (dflt lo hi : Int) (offs : Array Int) (pc : Nat) (x : Int32) : ez_Q → Option Nat × ez_Q
  | (n + 1, q, a) => (ez_sw dflt lo hi offs pc x, n, q, a)
  | (0, [], a) => (ez_sw dflt lo hi offs pc x, 0, [], a)
  | (0, (v, n) :: q, a) => bif Nat.beq v 4294967296 then (ez_tg pc dflt, n, q, decide (x.toInt < lo ∨ hi < x.toInt) :: a) else (ez_sw dflt lo hi offs pc (Int32.ofNat v), n, q, decide (x = Int32.ofNat v) :: a)
theorem ez_qb_s {o : ez_Q} {t b : Bool} {o' : ez_Q} (h : ez_qb o t = (b, o')) (hk : ez_ok o') : t = b ∧ ez_ok o := by
  obtain ⟨n, q, a⟩ := o
  match n, q with
  | n + 1, q => cases h; exact ⟨rfl, hk⟩
  | 0, [] => cases h; exact ⟨rfl, hk⟩
  | 0, (v, n) :: q =>
    cases h
    obtain ⟨h1, h2⟩ := hk
    exact ⟨eq_of_beq h1, h2⟩
theorem ez_qs_s {dflt lo hi : Int} {offs : Array Int} {pc : Nat} {x : Int32} {o o' : ez_Q} {r : Option Nat} (h : ez_qs dflt lo hi offs pc x o = (r, o')) (hk : ez_ok o') : ez_sw dflt lo hi offs pc x = r ∧ ez_ok o := by
  obtain ⟨n, q, a⟩ := o
  match n, q with
  | n + 1, q => cases h; exact ⟨rfl, hk⟩
  | 0, [] => cases h; exact ⟨rfl, hk⟩
  | 0, (v, n) :: q =>
    unfold ez_qs at h
    dsimp only at h
    cases hv : Nat.beq v 4294967296 with
    | true =>
      rw [hv] at h
      cases h
      obtain ⟨h1, h2⟩ := hk
      refine ⟨?_, h2⟩
      unfold ez_sw
      rw [h1]
      rfl
    | false =>
      rw [hv] at h
      cases h
      obtain ⟨h1, h2⟩ := hk
      exact ⟨by rw [of_decide_eq_true h1], h2⟩
def ez_pgo {β : Type} (mL : Nat → Nat) (ih : ez_PF) (κ : Nat → Nat → List Value → List Value → ez_H → Nat → Nat → ez_Q → Option β) (m pc a n : Nat) (ls st : List Value) (h : ez_H) (c k : Nat) (o : ez_Q) : Option β :=
  bif Nat.ble n st.length && (Nat.ble (ez_cats (st.drop n)) 8 && Nat.ble (ez_cats (st.take n).reverse) (mL a)) then (match ih a 0 (ez_lay (st.take n).reverse) [] h 0 0 o with
    | some (r, h', c1, k1, o') => κ m (pc + 3) ls (r.toList ++ st.drop n) h' (c + c1) (k + k1) o'
    | none => none) else none
def ez_pst {β : Type} (P : ez_P) (X : ez_X) (ty : Nat → Nat → FieldType) (nw : Nat → List Value) (mL : Nat → Nat) (ih : ez_PF) (ret : Option Value × ez_H × Nat × Nat × ez_Q → Option β) (κ : Nat → Nat → List Value → List Value → ez_H → Nat → Nat → ez_Q → Option β) : Nat → Nat → List Value → List Value → ez_H → Nat → Nat → ez_Q → Option β := fun m pc ls0 st h c k o =>
  match P m pc with
  | none => none
  | some (i, len, a, b, cut, _, d) => match i with
    | .goto _ => κ m a (ez_cut cut ls0) st h c k o
    | .if_icmp cn _ => match ez_icmp cn st with
      | some (t, r) => match ez_qb o t with
        | (t', o') => bif t' then κ m a (ez_cut cut ls0) r h c k o' else κ m (pc + 3) (ez_cut cut ls0) r h c k o'
      | none => none
    | .ifCond cn _ => match ez_ifc cn st with
      | some (t, r) => match ez_qb o t with
        | (t', o') => bif t' then κ m a (ez_cut cut ls0) r h c k o' else κ m (pc + 3) (ez_cut cut ls0) r h c k o'
      | none => none
    | .tableswitch dflt lo hi offs => match st with
      | .int x :: r => match ez_qs dflt lo hi offs pc x o with
        | (some q, o') => κ m q (ez_cut cut ls0) r h c k o'
        | (none, _) => none
      | _ => none
    | .ireturn => match st with
      | [.int v] => bif Nat.beq b 0 || decide (v = 0) || decide (v = 1) then ret (some (.int v), h, c, k, o) else none
      | _ => none
    | .lreturn => match st with
      | [.long v] => ret (some (.long v), h, c, k, o)
      | _ => none
    | .areturn => match st with
      | [.ref v] => ret (some (.ref v), h, c, k, o)
      | _ => none
    | .return_ => match st with
      | [] => ret (none, h, c, k, o)
      | _ => none
    | .new _ => κ m (pc + 3) (ez_cut cut ls0) (.ref h.length :: st) (h ++ [.inr (a, nw a)]) (c + 1) (k + b) o
    | .newarray ty => match st with
      | .int n :: r => bif decide (n < 0) || Nat.ble 1000000 n.toNatClampNeg then none else (match ty with
        | .int => κ m (pc + 2) (ez_cut cut ls0) (.ref h.length :: r) (h ++ [.inl (n.toNatClampNeg, .inl fun _ => 0)]) (c + 1) (k + n.toNatClampNeg) o
        | .long => κ m (pc + 2) (ez_cut cut ls0) (.ref h.length :: r) (h ++ [.inl (n.toNatClampNeg, .inr (.inl fun _ => 0))]) (c + 1) (k + n.toNatClampNeg) o
        | _ => none)
      | _ => none
    | .invokevirtual _ => bif ez_isO d h (st.take b).reverse then ez_pgo mL ih κ m pc a b (ez_cut cut ls0) st h c k o else none
    | .invokestatic _ => bif Nat.beq a 901 then (match st with
        | .int y :: .int x :: r => bif Nat.ble (ez_cats r) 8 then κ m (pc + 3) (ez_cut cut ls0) (.int (if x < y then y else x) :: r) h c k o else none
        | _ => none) else bif Nat.beq a 902 then (match st with
        | .int y :: .int x :: r => bif Nat.ble (ez_cats r) 8 then κ m (pc + 3) (ez_cut cut ls0) (.int (if y < x then y else x) :: r) h c k o else none
        | _ => none) else ez_pgo mL ih κ m pc a b (ez_cut cut ls0) st h c k o
    | .invokespecial _ => bif Nat.beq a 900 then (match st with
        | .ref _ :: r => bif Nat.ble (ez_cats r) 8 then κ m (pc + 3) (ez_cut cut ls0) r h c k o else none
        | _ => none) else bif ez_isR (st.take b).reverse then ez_pgo mL ih κ m pc a b (ez_cut cut ls0) st h c k o else none
    | i => match ez_b X ty i a b (ez_cut cut ls0) st h with
      | some (ls', st', h') => κ m (pc + len) ls' st' h' c k o
      | none => none
noncomputable def ez_pth (P : ez_P) (X : ez_X) (ty : Nat → Nat → FieldType) (nw : Nat → List Value) (mL : Nat → Nat) (F : Nat) : ez_PF :=
  Nat.rec (motive := fun _ => ez_PF) (fun _ _ _ _ _ _ _ _ => none) (fun _ ih => ez_pst P X ty nw mL ih some ih) F
abbrev ez_S : Type := Nat × List Value × List Value × ez_H × Nat × Nat × ez_Q
/-- n instructions of one method, its calls whole; F: the fuel that is left -/
noncomputable def ez_sg (P : ez_P) (X : ez_X) (ty : Nat → Nat → FieldType) (nw : Nat → List Value) (mL : Nat → Nat) (F n : Nat) : Nat → Nat → List Value → List Value → ez_H → Nat → Nat → ez_Q → Option ez_S :=
  Nat.rec (motive := fun _ => Nat → Nat → List Value → List Value → ez_H → Nat → Nat → ez_Q → Option ez_S) (fun _ pc ls st h c k o => some (pc, ls, st, h, c, k, o)) (fun n ih => ez_pst P X ty nw mL (ez_pth P X ty nw mL (F + n)) (fun _ => none) ih) n
section EZP
variable {P : ez_P} {X : ez_X} {ty : Nat → Nat → FieldType} {nw : Nat → List Value} {mL : Nat → Nat}
def ez_psnd (P : ez_P) (X : ez_X) (ty : Nat → Nat → FieldType) (nw : Nat → List Value) (mL : Nat → Nat) (F : Nat) (ih : ez_PF) : Prop := ∀ (m pc : Nat) (ls st : List Value) (h : ez_H) (c k : Nat) (o : ez_Q) (r : Option Value) (h' : ez_H) (c' k' : Nat) (o' : ez_Q), ih m pc ls st h c k o = some (r, h', c', k', o') → ez_ok o' → ez_ok o ∧ ez_ev P X ty nw mL F m pc ls st h c k = some (r, h', c', k')
def ez_nxt {β : Type} (P : ez_P) (X : ez_X) (ty : Nat → Nat → FieldType) (nw : Nat → List Value) (mL : Nat → Nat) (F : Nat) (ret : Option Value × ez_H × Nat × Nat × ez_Q → Option β) (κ : Nat → Nat → List Value → List Value → ez_H → Nat → Nat → ez_Q → Option β) (m : Nat) (o : ez_Q) (R : ez_O) (x : β) : Prop :=
  (∃ r h' c' k', ret (r, h', c', k', o) = some x ∧ R = some (r, h', c', k')) ∨ (∃ pc' ls' st' h' c' k' o', κ m pc' ls' st' h' c' k' o' = some x ∧ (ez_ok o' → ez_ok o ∧ R = ez_ev P X ty nw mL F m pc' ls' st' h' c' k'))
theorem ez_pgo_s {β : Type} {F : Nat} {ih : ez_PF} {ret : Option Value × ez_H × Nat × Nat × ez_Q → Option β} {κ : Nat → Nat → List Value → List Value → ez_H → Nat → Nat → ez_Q → Option β} (hih : ez_psnd P X ty nw mL F ih) {m pc a n : Nat} {ls st : List Value} {h : ez_H} {c k : Nat} {o : ez_Q} {x : β}
    (hz : ez_pgo mL ih κ m pc a n ls st h c k o = some x) : ez_nxt P X ty nw mL F ret κ m o (ez_go mL (ez_ev P X ty nw mL F) m pc a n ls st h c k) x := by
  unfold ez_pgo at hz
  obtain ⟨h1, hz⟩ := ez_bif hz
  unfold ez_go
  rw [h1]
  split at hz
  · rename_i r h' c1 k1 o' h2
    refine Or.inr ⟨_, _, _, _, _, _, _, hz, fun hk => ?_⟩
    obtain ⟨g1, g2⟩ := hih _ _ _ _ _ _ _ _ _ _ _ _ _ h2 hk
    exact ⟨g1, by rw [g2]; rfl⟩
  · cases hz
theorem ez_pst_s {β : Type} {F : Nat} {ih : ez_PF} {ret : Option Value × ez_H × Nat × Nat × ez_Q → Option β} {κ : Nat → Nat → List Value → List Value → ez_H → Nat → Nat → ez_Q → Option β} (hih : ez_psnd P X ty nw mL F ih) {m pc : Nat} {ls st : List Value} {h : ez_H} {c k : Nat} {o : ez_Q} {x : β}
    (hz : ez_pst P X ty nw mL ih ret κ m pc ls st h c k o = some x) : ez_nxt P X ty nw mL F ret κ m o (ez_ev P X ty nw mL (F + 1) m pc ls st h c k) x := by
  rw [ez_ev_s]
  unfold ez_pst at hz
  unfold ez_stp
  cases hP : P m pc with
  | none => rw [hP] at hz; cases hz
  | some y =>
    obtain ⟨i, len, a, b, cut, w, d⟩ := y
    rw [hP] at hz
    dsimp only at hz ⊢
    split at hz
    · exact Or.inr ⟨_, _, _, _, _, _, _, hz, fun hk => ⟨hk, rfl⟩⟩
    · cases hi : ez_icmp ‹_› st with
      | none => rw [hi] at hz; cases hz
      | some t =>
        obtain ⟨t, r⟩ := t
        rw [hi] at hz
        dsimp only at hz ⊢
        cases hq : ez_qb o t with
        | mk t' o' =>
          rw [hq] at hz
          dsimp only at hz
          cases t' with
          | true => exact Or.inr ⟨_, _, _, _, _, _, _, hz, fun hk => ⟨(ez_qb_s hq hk).2, by rw [(ez_qb_s hq hk).1]; rfl⟩⟩
          | false => exact Or.inr ⟨_, _, _, _, _, _, _, hz, fun hk => ⟨(ez_qb_s hq hk).2, by rw [(ez_qb_s hq hk).1]; rfl⟩⟩
    · cases hi : ez_ifc ‹_› st with
      | none => rw [hi] at hz; cases hz
      | some t =>
        obtain ⟨t, r⟩ := t
        rw [hi] at hz
        dsimp only at hz ⊢
        cases hq : ez_qb o t with
        | mk t' o' =>
          rw [hq] at hz
          dsimp only at hz
          cases t' with
          | true => exact Or.inr ⟨_, _, _, _, _, _, _, hz, fun hk => ⟨(ez_qb_s hq hk).2, by rw [(ez_qb_s hq hk).1]; rfl⟩⟩
          | false => exact Or.inr ⟨_, _, _, _, _, _, _, hz, fun hk => ⟨(ez_qb_s hq hk).2, by rw [(ez_qb_s hq hk).1]; rfl⟩⟩
    · split at hz
      · split at hz
        · rename_i hq
          refine Or.inr ⟨_, _, _, _, _, _, _, hz, fun hk => ⟨(ez_qs_s hq hk).2, ?_⟩⟩
          dsimp only
          rw [(ez_qs_s hq hk).1]
        · cases hz
      · cases hz
    · split at hz
      · obtain ⟨h1, hz⟩ := ez_bif hz
        refine Or.inl ⟨_, _, _, _, hz, ?_⟩
        dsimp only
        rw [h1]
        rfl
      · cases hz
    · split at hz
      · exact Or.inl ⟨_, _, _, _, hz, rfl⟩
      · cases hz
    · split at hz
      · exact Or.inl ⟨_, _, _, _, hz, rfl⟩
      · cases hz
    · split at hz
      · exact Or.inl ⟨_, _, _, _, hz, rfl⟩
      · cases hz
    · exact Or.inr ⟨_, _, _, _, _, _, _, hz, fun hk => ⟨hk, rfl⟩⟩
    · split at hz
      · obtain ⟨h1, hz⟩ := ez_bifN hz
        split at hz
        · refine Or.inr ⟨_, _, _, _, _, _, _, hz, fun hk => ⟨hk, ?_⟩⟩
          dsimp only
          rw [h1]
          rfl
        · refine Or.inr ⟨_, _, _, _, _, _, _, hz, fun hk => ⟨hk, ?_⟩⟩
          dsimp only
          rw [h1]
          rfl
        · cases hz
      · cases hz
    · obtain ⟨h1, hz⟩ := ez_bif hz
      rw [h1]
      exact ez_pgo_s hih hz
    · cases h1 : Nat.beq a 901 with
      | true =>
        rw [h1] at hz
        dsimp only [cond_true] at hz ⊢
        split at hz
        · obtain ⟨h2, hz⟩ := ez_bif hz
          refine Or.inr ⟨_, _, _, _, _, _, _, hz, fun hk => ⟨hk, ?_⟩⟩
          dsimp only
          rw [h2]
          rfl
        · cases hz
      | false =>
        rw [h1] at hz
        dsimp only [cond_false] at hz ⊢
        cases h3 : Nat.beq a 902 with
        | true =>
          rw [h3] at hz
          dsimp only [cond_true] at hz ⊢
          split at hz
          · obtain ⟨h2, hz⟩ := ez_bif hz
            refine Or.inr ⟨_, _, _, _, _, _, _, hz, fun hk => ⟨hk, ?_⟩⟩
            dsimp only
            rw [h2]
            rfl
          · cases hz
        | false =>
          rw [h3] at hz
          dsimp only [cond_false] at hz ⊢
          exact ez_pgo_s hih hz
    · cases h1 : Nat.beq a 900 with
      | true =>
        rw [h1] at hz
        dsimp only [cond_true] at hz ⊢
        split at hz
        · obtain ⟨h2, hz⟩ := ez_bif hz
          refine Or.inr ⟨_, _, _, _, _, _, _, hz, fun hk => ⟨hk, ?_⟩⟩
          dsimp only
          rw [h2]
          rfl
        · cases hz
      | false =>
        rw [h1] at hz
        dsimp only [cond_false] at hz ⊢
        obtain ⟨h2, hz⟩ := ez_bif hz
        rw [h2]
        exact ez_pgo_s hih hz
    · split
      all_goals first
        | (exfalso; simp_all; done)
        | skip
      cases hb : ez_b X ty i a b (ez_cut cut ls) st h with
      | none => rw [hb] at hz; cases hz
      | some z =>
        rw [hb] at hz
        exact Or.inr ⟨_, _, _, _, _, _, _, hz, fun hk => ⟨hk, rfl⟩⟩
theorem ez_pth_s : ∀ F : Nat, ez_psnd P X ty nw mL F (ez_pth P X ty nw mL F) := by
  intro F
  induction F with
  | zero => intro m pc ls st h c k o r h' c' k' o' hz; cases hz
  | succ F hF =>
    intro m pc ls st h c k o r h' c' k' o' hz hk
    have hz' : ez_pst P X ty nw mL (ez_pth P X ty nw mL F) some (ez_pth P X ty nw mL F) m pc ls st h c k o = some (r, h', c', k', o') := hz
    rcases ez_pst_s hF hz' with ⟨r1, h1, c1, k1, e1, e2⟩ | ⟨pc1, ls1, st1, h1, c1, k1, o1, e1, e2⟩
    · cases e1
      exact ⟨hk, e2⟩
    · obtain ⟨g1, g2⟩ := hF _ _ _ _ _ _ _ _ _ _ _ _ _ e1 hk
      obtain ⟨g3, g4⟩ := e2 g1
      exact ⟨g3, g4.trans g2⟩
theorem ez_sg_s (F : Nat) : ∀ (n m pc : Nat) (ls st : List Value) (h : ez_H) (c k : Nat) (o : ez_Q) (pc' : Nat) (ls' st' : List Value) (h' : ez_H) (c' k' : Nat) (o' : ez_Q), ez_sg P X ty nw mL F n m pc ls st h c k o = some (pc', ls', st', h', c', k', o') → ez_ok o' → ez_ok o ∧ ez_ev P X ty nw mL (F + n) m pc ls st h c k = ez_ev P X ty nw mL F m pc' ls' st' h' c' k' := by
  intro n
  induction n with
  | zero => intro m pc ls st h c k o pc' ls' st' h' c' k' o' hz hk; cases hz; exact ⟨hk, rfl⟩
  | succ n hn =>
    intro m pc ls st h c k o pc' ls' st' h' c' k' o' hz hk
    have hz' : ez_pst P X ty nw mL (ez_pth P X ty nw mL (F + n)) (fun _ => none) (ez_sg P X ty nw mL F n) m pc ls st h c k o = some (pc', ls', st', h', c', k', o') := hz
    rcases ez_pst_s (ez_pth_s (F + n)) hz' with ⟨r1, h1, c1, k1, e1, e2⟩ | ⟨pc1, ls1, st1, h1, c1, k1, o1, e1, e2⟩
    · cases e1
    · obtain ⟨g1, g2⟩ := hn _ _ _ _ _ _ _ _ _ _ _ _ _ _ _ e1 hk
      obtain ⟨g3, g4⟩ := e2 g1
      exact ⟨g3, g4.trans g2⟩
end EZP
