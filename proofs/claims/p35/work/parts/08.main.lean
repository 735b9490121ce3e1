section EZM
variable {l : Launch} {tbl : Unit} {M : ez_M} {K : ez_K} {P : ez_P} {X : ez_X} {ty : Nat → Nat → FieldType} {nw : Nat → List Value} {cl : List vw_C} {S0 b0 nM nK : Nat}
theorem ez_isO_s {d q : Nat} {h : ez_H} {as : List Value} (hz : ez_isO d h as = true) : ∃ (q : Nat) (bs : List Value) (fs : List Value), as = .ref q :: bs ∧ h[q]? = some (.inr (d, fs)) := by
  unfold ez_isO at hz
  split at hz
  · rename_i q bs
    split at hz
    · rename_i cj fs hq
      obtain rfl : cj = d := Nat.eq_of_beq_eq_true hz
      exact ⟨q, bs, fs, rfl, hq⟩
    · cases hz
  · cases hz
theorem ez_isR_s {as : List Value} (hz : ez_isR as = true) : ∃ (q : Nat) (bs : List Value), as = .ref q :: bs := by
  unfold ez_isR at hz
  split at hz
  · exact ⟨_, _, rfl⟩
  · cases hz
/-- the stack at a call: the arguments upside down, then the rest -/
theorem ez_stk {S0 b0 n : Nat} {st as : List Value} (h : (st.take n).reverse = as) : st.map (ez_mv S0 b0) = (as.map (ez_mv S0 b0)).reverse ++ (st.drop n).map (ez_mv S0 b0) := by
  rw [← h, ← List.map_reverse, List.reverse_reverse, ← List.map_append, List.take_append_drop]
theorem ez_tg_s {pc q : Nat} {off : Int} (h : ez_tg pc off = some q) : (pc : Int) + off = (q : Int) := by
  unfold ez_tg at h
  obtain ⟨h1, h2⟩ := ez_bifN h
  have h3 := of_decide_eq_false h1
  have h4 := Option.some.inj h2
  omega
theorem ez_sw_s {dflt lo hi : Int} {offs : Array Int} {pc q : Nat} {x : Int32} (h : ez_sw dflt lo hi offs pc x = some q) : ((x.toInt < lo ∨ hi < x.toInt) ∧ (pc : Int) + dflt = (q : Int)) ∨ (¬ x.toInt < lo ∧ ¬ hi < x.toInt ∧ ∃ off, offs[(x.toInt - lo).toNat]? = some off ∧ (pc : Int) + off = (q : Int)) := by
  unfold ez_sw at h
  cases hz : decide (x.toInt < lo ∨ hi < x.toInt) with
  | true =>
    rw [hz] at h
    exact Or.inl ⟨of_decide_eq_true hz, ez_tg_s h⟩
  | false =>
    rw [hz] at h
    have h0 := of_decide_eq_false hz
    refine Or.inr ⟨fun z => h0 (Or.inl z), fun z => h0 (Or.inr z), ?_⟩
    simp only [cond_false] at h
    split at h
    · rename_i off ho
      exact ⟨off, ho, ez_tg_s h⟩
    · cases h
theorem ez_icmp_s {o : ClassFile.Cond} {st r : List Value} {t : Bool} (h : ez_icmp o st = some (t, r)) : ∃ x y, st = .int y :: .int x :: r := by
  unfold ez_icmp at h
  split at h
  · cases h; exact ⟨_, _, rfl⟩
  · cases h
theorem ez_ifc_s {o : ClassFile.Cond} {st r : List Value} {t : Bool} (h : ez_ifc o st = some (t, r)) : ∃ x, st = .int x :: r := by
  unfold ez_ifc at h
  split at h
  · cases h; exact ⟨_, rfl⟩
  · cases h
theorem ez_br {α : Type} {t : Bool} {x y : Option α} {z : α} (h : (bif t then x else y) = some z) : (t = true ∧ x = some z) ∨ (t = false ∧ y = some z) := by
  cases t with
  | true => exact Or.inl ⟨rfl, h⟩
  | false => exact Or.inr ⟨rfl, h⟩
theorem ez_nw_mv {S0 b0 : Nat} {fs : List Value} (h : ∀ v ∈ fs, v = .int 0 ∨ v = .long 0 ∨ v = .null) : fs.map (ez_mv S0 b0) = fs := by
  induction fs with
  | nil => rfl
  | cons v t ih =>
    rw [List.map_cons, ih (fun w hw => h w (List.mem_cons_of_mem _ hw))]
    rcases h v List.mem_cons_self with rfl | rfl | rfl <;> rfl
set_option maxHeartbeats 16000000 in
theorem ez_sound (hb0 : b0 < S0) (hg : ∀ w ∈ ez_tb, (goodWord w || ez_nest w) = true) (hM : ∀ a, a < nM → ez_mok tbl M a) (hC : ∀ ci, ci < nK → ez_okC tbl cl K ty nw ci)
    (hI : ∀ m, m ≤ nM → ∀ (pc : Nat) (x : ez_I), P m pc = some x → ez_okI tbl M K nM nK m pc x = true)
    (hmax : Cond.static Lib.Math.max.name ∈ ez_tb ∧ Cond.initialized "java/lang/Math" ∈ ez_tb ∧ Cond.code Lib.Math.max.name Lib.Math.max.code 2 (some .int) ∈ ez_tb)
    (hmin : Cond.static Lib.Math.min.name ∈ ez_tb ∧ Cond.code Lib.Math.min.name Lib.Math.min.code 2 (some .int) ∈ ez_tb)
    (hobj : Cond.instanceMethod Lib.objectInit ∈ ez_tb ∧ Cond.code Lib.objectInit ⟨#[0xb1]⟩ 1 none ∈ ez_tb) : ∀ F, ez_snd l tbl M P X ty nw cl S0 b0 nM F := by
  intro F
  induction F with
  | zero => intro m pc ls st h c k r h' c' k' hm hrun; cases hrun
  | succ F hF =>
    intro m pc ls0 st h c k r h' c' k' hm hrun
    rw [ez_ev_s] at hrun
    unfold ez_stp at hrun
    split at hrun
    · cases hrun
    rename_i i len a b cut w d hP
    have hok0 := hI m hm pc _ hP
    obtain ⟨hdg0, hok⟩ := Bool.and_eq_true_iff.mp hok0
    have hdg := of_decide_eq_true hdg0
    clear hok0 hdg0 hP
    cases i
    case goto off =>
      dsimp only at hrun
      obtain ⟨g1, g2⟩ := Bool.and_eq_true_iff.mp hok
      obtain rfl : len = 3 := Nat.eq_of_beq_eq_true g2
      obtain ⟨hc, hw⟩ := hF m a _ _ _ _ _ _ _ _ _ hm hrun
      refine ⟨hc, ?_⟩
      intro D cI cJ p e R s mid args below meth co H locs lsA Q C hfr hlo hcc hkk hR hS hl hex
      have C0 := C
      obtain ⟨hx, hb, hml, hown, hts, hK, hX, hbl, hin⟩ := C
      exact lv_goto hx hb hdg (of_decide_eq_true g1) (hw D cI cJ p e R s mid args below meth co H locs lsA Q C0 hfr hlo hcc hkk hR hS (ez_lv_take cut hl) hex)
    case if_icmp o off =>
      dsimp only at hrun
      obtain ⟨g1, g2⟩ := Bool.and_eq_true_iff.mp hok
      obtain rfl : len = 3 := Nat.eq_of_beq_eq_true g2
      split at hrun
      · rename_i t r1 hz
        obtain ⟨x, y, rfl⟩ := ez_icmp_s hz
        simp only [ez_icmp, Option.some.injEq, Prod.mk.injEq, and_true] at hz
        rcases ez_br hrun with ⟨ht, hr⟩ | ⟨ht, hr⟩
        · obtain ⟨hc, hw⟩ := hF m _ _ _ _ _ _ _ _ _ _ hm hr
          refine ⟨hc, ?_⟩
          intro D cI cJ p e R s mid args below meth co H locs lsA Q C hfr hlo hcc hkk hR hS hl hex
          have C0 := C
          obtain ⟨hx, hb, hml, hown, hts, hK, hX, hbl, hin⟩ := C
          rw [ht] at hz
          cases o
          case eq =>
            have h0 := of_decide_eq_true hz
            exact lv_icmp_eq hx hb hdg (of_decide_eq_true g1) (fun _ => hw D cI cJ p e R s mid args below meth co H locs lsA Q C0 hfr hlo hcc hkk hR hS (ez_lv_take cut hl) hex) (fun q => absurd h0 q)
          case ne =>
            have h0 := of_decide_eq_true hz
            exact lv_icmp_ne hx hb hdg (of_decide_eq_true g1) (fun _ => hw D cI cJ p e R s mid args below meth co H locs lsA Q C0 hfr hlo hcc hkk hR hS (ez_lv_take cut hl) hex) (fun q => absurd q h0)
          case lt =>
            have h0 := of_decide_eq_true hz
            exact lv_icmp_lt hx hb hdg (of_decide_eq_true g1) (fun _ => hw D cI cJ p e R s mid args below meth co H locs lsA Q C0 hfr hlo hcc hkk hR hS (ez_lv_take cut hl) hex) (fun q => absurd h0 q)
          case ge =>
            have h0 := of_decide_eq_true hz
            exact lv_icmp_ge hx hb hdg (of_decide_eq_true g1) (fun _ => hw D cI cJ p e R s mid args below meth co H locs lsA Q C0 hfr hlo hcc hkk hR hS (ez_lv_take cut hl) hex) (fun q => absurd h0 q)
          case gt =>
            have h0 := of_decide_eq_true hz
            exact lv_icmp_gt hx hb hdg (of_decide_eq_true g1) (fun _ => hw D cI cJ p e R s mid args below meth co H locs lsA Q C0 hfr hlo hcc hkk hR hS (ez_lv_take cut hl) hex) (fun q => absurd h0 q)
          case le =>
            have h0 := of_decide_eq_true hz
            exact lv_icmp_le hx hb hdg (of_decide_eq_true g1) (fun _ => hw D cI cJ p e R s mid args below meth co H locs lsA Q C0 hfr hlo hcc hkk hR hS (ez_lv_take cut hl) hex) (fun q => absurd h0 q)
        · obtain ⟨hc, hw⟩ := hF m _ _ _ _ _ _ _ _ _ _ hm hr
          refine ⟨hc, ?_⟩
          intro D cI cJ p e R s mid args below meth co H locs lsA Q C hfr hlo hcc hkk hR hS hl hex
          have C0 := C
          obtain ⟨hx, hb, hml, hown, hts, hK, hX, hbl, hin⟩ := C
          rw [ht] at hz
          cases o
          case eq =>
            have h0 := of_decide_eq_false hz
            exact lv_icmp_eq hx hb hdg (of_decide_eq_true g1) (fun q => absurd q h0) (fun _ => hw D cI cJ p e R s mid args below meth co H locs lsA Q C0 hfr hlo hcc hkk hR hS (ez_lv_take cut hl) hex)
          case ne =>
            have h0 := of_decide_eq_false hz
            exact lv_icmp_ne hx hb hdg (of_decide_eq_true g1) (fun q => absurd q h0) (fun _ => hw D cI cJ p e R s mid args below meth co H locs lsA Q C0 hfr hlo hcc hkk hR hS (ez_lv_take cut hl) hex)
          case lt =>
            have h0 := of_decide_eq_false hz
            exact lv_icmp_lt hx hb hdg (of_decide_eq_true g1) (fun q => absurd q h0) (fun _ => hw D cI cJ p e R s mid args below meth co H locs lsA Q C0 hfr hlo hcc hkk hR hS (ez_lv_take cut hl) hex)
          case ge =>
            have h0 := of_decide_eq_false hz
            exact lv_icmp_ge hx hb hdg (of_decide_eq_true g1) (fun q => absurd q h0) (fun _ => hw D cI cJ p e R s mid args below meth co H locs lsA Q C0 hfr hlo hcc hkk hR hS (ez_lv_take cut hl) hex)
          case gt =>
            have h0 := of_decide_eq_false hz
            exact lv_icmp_gt hx hb hdg (of_decide_eq_true g1) (fun q => absurd q h0) (fun _ => hw D cI cJ p e R s mid args below meth co H locs lsA Q C0 hfr hlo hcc hkk hR hS (ez_lv_take cut hl) hex)
          case le =>
            have h0 := of_decide_eq_false hz
            exact lv_icmp_le hx hb hdg (of_decide_eq_true g1) (fun q => absurd q h0) (fun _ => hw D cI cJ p e R s mid args below meth co H locs lsA Q C0 hfr hlo hcc hkk hR hS (ez_lv_take cut hl) hex)
      · cases hrun
    case ifCond o off =>
      dsimp only at hrun
      obtain ⟨g1, g2⟩ := Bool.and_eq_true_iff.mp hok
      obtain rfl : len = 3 := Nat.eq_of_beq_eq_true g2
      split at hrun
      · rename_i t r1 hz
        obtain ⟨x, rfl⟩ := ez_ifc_s hz
        simp only [ez_ifc, Option.some.injEq, Prod.mk.injEq, and_true] at hz
        rcases ez_br hrun with ⟨ht, hr⟩ | ⟨ht, hr⟩
        · obtain ⟨hc, hw⟩ := hF m _ _ _ _ _ _ _ _ _ _ hm hr
          refine ⟨hc, ?_⟩
          intro D cI cJ p e R s mid args below meth co H locs lsA Q C hfr hlo hcc hkk hR hS hl hex
          have C0 := C
          obtain ⟨hx, hb, hml, hown, hts, hK, hX, hbl, hin⟩ := C
          rw [ht] at hz
          cases o
          case eq =>
            have h0 := of_decide_eq_true hz
            exact lv_if_eq hx hb hdg (of_decide_eq_true g1) (fun _ => hw D cI cJ p e R s mid args below meth co H locs lsA Q C0 hfr hlo hcc hkk hR hS (ez_lv_take cut hl) hex) (fun q => absurd h0 q)
          case ne =>
            have h0 := of_decide_eq_true hz
            exact lv_if_ne hx hb hdg (of_decide_eq_true g1) (fun _ => hw D cI cJ p e R s mid args below meth co H locs lsA Q C0 hfr hlo hcc hkk hR hS (ez_lv_take cut hl) hex) (fun q => absurd q h0)
          case lt =>
            have h0 := of_decide_eq_true hz
            exact lv_if_lt hx hb hdg (of_decide_eq_true g1) (fun _ => hw D cI cJ p e R s mid args below meth co H locs lsA Q C0 hfr hlo hcc hkk hR hS (ez_lv_take cut hl) hex) (fun q => absurd h0 q)
          case ge =>
            have h0 := of_decide_eq_true hz
            exact lv_if_ge hx hb hdg (of_decide_eq_true g1) (fun _ => hw D cI cJ p e R s mid args below meth co H locs lsA Q C0 hfr hlo hcc hkk hR hS (ez_lv_take cut hl) hex) (fun q => absurd h0 q)
          case gt =>
            have h0 := of_decide_eq_true hz
            exact lv_if_gt hx hb hdg (of_decide_eq_true g1) (fun _ => hw D cI cJ p e R s mid args below meth co H locs lsA Q C0 hfr hlo hcc hkk hR hS (ez_lv_take cut hl) hex) (fun q => absurd h0 q)
          case le =>
            have h0 := of_decide_eq_true hz
            exact lv_if_le hx hb hdg (of_decide_eq_true g1) (fun _ => hw D cI cJ p e R s mid args below meth co H locs lsA Q C0 hfr hlo hcc hkk hR hS (ez_lv_take cut hl) hex) (fun q => absurd h0 q)
        · obtain ⟨hc, hw⟩ := hF m _ _ _ _ _ _ _ _ _ _ hm hr
          refine ⟨hc, ?_⟩
          intro D cI cJ p e R s mid args below meth co H locs lsA Q C hfr hlo hcc hkk hR hS hl hex
          have C0 := C
          obtain ⟨hx, hb, hml, hown, hts, hK, hX, hbl, hin⟩ := C
          rw [ht] at hz
          cases o
          case eq =>
            have h0 := of_decide_eq_false hz
            exact lv_if_eq hx hb hdg (of_decide_eq_true g1) (fun q => absurd q h0) (fun _ => hw D cI cJ p e R s mid args below meth co H locs lsA Q C0 hfr hlo hcc hkk hR hS (ez_lv_take cut hl) hex)
          case ne =>
            have h0 := of_decide_eq_false hz
            exact lv_if_ne hx hb hdg (of_decide_eq_true g1) (fun q => absurd q h0) (fun _ => hw D cI cJ p e R s mid args below meth co H locs lsA Q C0 hfr hlo hcc hkk hR hS (ez_lv_take cut hl) hex)
          case lt =>
            have h0 := of_decide_eq_false hz
            exact lv_if_lt hx hb hdg (of_decide_eq_true g1) (fun q => absurd q h0) (fun _ => hw D cI cJ p e R s mid args below meth co H locs lsA Q C0 hfr hlo hcc hkk hR hS (ez_lv_take cut hl) hex)
          case ge =>
            have h0 := of_decide_eq_false hz
            exact lv_if_ge hx hb hdg (of_decide_eq_true g1) (fun q => absurd q h0) (fun _ => hw D cI cJ p e R s mid args below meth co H locs lsA Q C0 hfr hlo hcc hkk hR hS (ez_lv_take cut hl) hex)
          case gt =>
            have h0 := of_decide_eq_false hz
            exact lv_if_gt hx hb hdg (of_decide_eq_true g1) (fun q => absurd q h0) (fun _ => hw D cI cJ p e R s mid args below meth co H locs lsA Q C0 hfr hlo hcc hkk hR hS (ez_lv_take cut hl) hex)
          case le =>
            have h0 := of_decide_eq_false hz
            exact lv_if_le hx hb hdg (of_decide_eq_true g1) (fun q => absurd q h0) (fun _ => hw D cI cJ p e R s mid args below meth co H locs lsA Q C0 hfr hlo hcc hkk hR hS (ez_lv_take cut hl) hex)
      · cases hrun
    case tableswitch dflt lo hi offs =>
      dsimp only at hrun
      split at hrun
      · rename_i x r1
        split at hrun
        · rename_i q hz
          obtain ⟨hc, hw⟩ := hF m _ _ _ _ _ _ _ _ _ _ hm hrun
          refine ⟨hc, ?_⟩
          intro D cI cJ p e R s mid args below meth co H locs lsA Q C hfr hlo hcc hkk hR hS hl hex
          have C0 := C
          obtain ⟨hx, hb, hml, hown, hts, hK, hX, hbl, hin⟩ := C
          rcases ez_sw_s hz with ⟨z1, z2⟩ | ⟨z1, z2, off, z3, z4⟩
          · exact lv_tableOut hx hb hdg z1 z2 (hw D cI cJ p e R s mid args below meth co H locs lsA Q C0 hfr hlo hcc hkk hR hS (ez_lv_take cut hl) hex)
          · exact lv_tableIn hx hb hdg z1 z2 z3 z4 (hw D cI cJ p e R s mid args below meth co H locs lsA Q C0 hfr hlo hcc hkk hR hS (ez_lv_take cut hl) hex)
        · cases hrun
      · cases hrun
    case ireturn =>
      dsimp only at hrun
      obtain ⟨g1, g2⟩ := Bool.and_eq_true_iff.mp hok
      obtain rfl : len = 1 := Nat.eq_of_beq_eq_true g2
      split at hrun
      · rename_i v
        obtain ⟨hz, hrun⟩ := ez_bif hrun
        cases hrun
        refine ⟨⟨Nat.le_refl _, Nat.le_refl _⟩, ?_⟩
        intro D cI cJ p e R s mid args below meth co H locs lsA Q C hfr hlo hcc hkk hR hS hl hex
        have C0 := C
        obtain ⟨hx, hb, hml, hown, hts, hK, hX, hbl, hin⟩ := C
        refine hex .ireturn pc lsA H locs hdg (Or.inl ⟨rfl, v, rfl, ?_⟩) hR hS
        cases hb0' : Nat.beq b 0 with
        | true =>
          rw [hb0'] at g1
          exact Or.inl (of_decide_eq_true g1)
        | false =>
          rw [hb0'] at g1 hz
          refine Or.inr ⟨of_decide_eq_true g1, ?_⟩
          rcases Bool.or_eq_true_iff.mp hz with hz | hz
          · exact Or.inl (of_decide_eq_true hz)
          · exact Or.inr (of_decide_eq_true hz)
      · cases hrun
    case lreturn =>
      dsimp only at hrun
      obtain ⟨g1, g2⟩ := Bool.and_eq_true_iff.mp hok
      obtain rfl : len = 1 := Nat.eq_of_beq_eq_true g2
      split at hrun
      · rename_i v
        cases hrun
        refine ⟨⟨Nat.le_refl _, Nat.le_refl _⟩, ?_⟩
        intro D cI cJ p e R s mid args below meth co H locs lsA Q C hfr hlo hcc hkk hR hS hl hex
        have C0 := C
        obtain ⟨hx, hb, hml, hown, hts, hK, hX, hbl, hin⟩ := C
        exact hex .lreturn pc lsA H locs hdg (Or.inr (Or.inl ⟨rfl, v, rfl, of_decide_eq_true g1⟩)) hR hS
      · cases hrun
    case areturn =>
      dsimp only at hrun
      obtain ⟨g1, g2⟩ := Bool.and_eq_true_iff.mp hok
      obtain rfl : len = 1 := Nat.eq_of_beq_eq_true g2
      split at hrun
      · rename_i v
        cases hrun
        refine ⟨⟨Nat.le_refl _, Nat.le_refl _⟩, ?_⟩
        intro D cI cJ p e R s mid args below meth co H locs lsA Q C hfr hlo hcc hkk hR hS hl hex
        have C0 := C
        obtain ⟨hx, hb, hml, hown, hts, hK, hX, hbl, hin⟩ := C
        split at g1
        · rename_i C hret
          exact hex .areturn pc lsA H locs hdg (Or.inr (Or.inr (Or.inl ⟨rfl, v, C, rfl, hret⟩))) hR hS
        · cases g1
      · cases hrun
    case return_ =>
      dsimp only at hrun
      obtain ⟨g1, g2⟩ := Bool.and_eq_true_iff.mp hok
      obtain rfl : len = 1 := Nat.eq_of_beq_eq_true g2
      split at hrun
      · cases hrun
        refine ⟨⟨Nat.le_refl _, Nat.le_refl _⟩, ?_⟩
        intro D cI cJ p e R s mid args below meth co H locs lsA Q C hfr hlo hcc hkk hR hS hl hex
        have C0 := C
        obtain ⟨hx, hb, hml, hown, hts, hK, hX, hbl, hin⟩ := C
        exact hex .return_ pc lsA H locs hdg (Or.inr (Or.inr (Or.inr ⟨rfl, rfl, of_decide_eq_true g1⟩))) hR hS
      · cases hrun
    case new idx =>
      dsimp only at hrun
      obtain ⟨g1, hok⟩ := Bool.and_eq_true_iff.mp hok
      obtain ⟨g2, hok⟩ := Bool.and_eq_true_iff.mp hok
      obtain ⟨g3, g4⟩ := Bool.and_eq_true_iff.mp hok
      obtain rfl : len = 3 := Nat.eq_of_beq_eq_true g3
      have hbk : b = (K a).2.2 := Nat.eq_of_beq_eq_true g2
      obtain ⟨⟨hc1, hc2⟩, hw⟩ := hF m _ _ _ _ _ _ _ _ _ _ hm hrun
      refine ⟨⟨by omega, by omega⟩, ?_⟩
      intro D cI cJ p e R s mid args below meth co H locs lsA Q C hfr hlo hcc hkk hR hS hl hex
      have C0 := C
      obtain ⟨hx, hb, hml, hown, hts, hK, hX, hbl, hin⟩ := C
      obtain ⟨d1, d2, d3, d4, d5, d6, d7, d8⟩ := hC a (Nat.le_of_ble_eq_true g1)
      subst hbk
      refine ez_newrow hx hb hts d2 (ty a) (fun k hk => (d3 k hk).1) hown (hts _ (ez_w_mem g4)) (hts _ d5) (hts _ d6) hK hR hS d1 (fs := nw a) (by rw [ez_nw_mv d8]; exact d7) (by omega) (by omega) hdg fun H1 hR1 hS1 => ?_
      exact hw D cI cJ p e R s mid args below meth co H1 locs lsA Q C0 hfr hlo hcc hkk hR1 hS1 (ez_lv_take cut hl) hex
    case newarray at0 =>
      dsimp only at hrun
      split at hrun
      · rename_i n r1
        obtain ⟨hz, hrun⟩ := ez_bifN hrun
        obtain ⟨z1, z2⟩ := Bool.or_eq_false_iff.mp hz
        have z3 : n.toNatClampNeg < 1000000 := by
          rcases Nat.lt_or_ge n.toNatClampNeg 1000000 with q | q
          · exact q
          · rw [Nat.ble_eq_true_of_le q] at z2
            cases z2
        split at hrun
        · obtain ⟨g1, g2⟩ := Bool.and_eq_true_iff.mp hok
          obtain rfl : len = 2 := Nat.eq_of_beq_eq_true g2
          obtain ⟨⟨hc1, hc2⟩, hw⟩ := hF m _ _ _ _ _ _ _ _ _ _ hm hrun
          refine ⟨⟨by omega, by omega⟩, ?_⟩
          intro D cI cJ p e R s mid args below meth co H locs lsA Q C hfr hlo hcc hkk hR hS hl hex
          have C0 := C
          obtain ⟨hx, hb, hml, hown, hts, hK, hX, hbl, hin⟩ := C
          refine ez_newIrow hx hb (hts _ (ez_w_mem g1)) hK hR hS (of_decide_eq_false z1) (by omega) (by omega) (by omega) hdg fun H1 hR1 hS1 => ?_
          exact hw D cI cJ p e R s mid args below meth co H1 locs lsA Q C0 hfr hlo hcc hkk hR1 hS1 (ez_lv_take cut hl) hex
        · obtain ⟨g1, g2⟩ := Bool.and_eq_true_iff.mp hok
          obtain rfl : len = 2 := Nat.eq_of_beq_eq_true g2
          obtain ⟨⟨hc1, hc2⟩, hw⟩ := hF m _ _ _ _ _ _ _ _ _ _ hm hrun
          refine ⟨⟨by omega, by omega⟩, ?_⟩
          intro D cI cJ p e R s mid args below meth co H locs lsA Q C hfr hlo hcc hkk hR hS hl hex
          have C0 := C
          obtain ⟨hx, hb, hml, hown, hts, hK, hX, hbl, hin⟩ := C
          refine ez_newJrow hx hb (hts _ (ez_w_mem g1)) hK hR hS (of_decide_eq_false z1) (by omega) (by omega) (by omega) hdg fun H1 hR1 hS1 => ?_
          exact hw D cI cJ p e R s mid args below meth co H1 locs lsA Q C0 hfr hlo hcc hkk hR1 hS1 (ez_lv_take cut hl) hex
        · cases hrun
      · cases hrun
    case invokevirtual idx =>
      dsimp only at hrun
      obtain ⟨g0, hok⟩ := Bool.and_eq_true_iff.mp hok
      obtain rfl : len = 3 := Nat.eq_of_beq_eq_true g0
      obtain ⟨g4, hok⟩ := Bool.and_eq_true_iff.mp hok
      obtain ⟨g5, hok⟩ := Bool.and_eq_true_iff.mp hok
      obtain ⟨g6, hok⟩ := Bool.and_eq_true_iff.mp hok
      obtain ⟨g7, hok⟩ := Bool.and_eq_true_iff.mp hok
      obtain ⟨g8, hok⟩ := Bool.and_eq_true_iff.mp hok
      have g4 : a < nM := Nat.le_of_ble_eq_true g4
      have g5 : ez_md M a < ez_md M m := Nat.le_of_ble_eq_true g5
      have g6 : 19 + ez_mL M a + ez_ml M a ≤ ez_ml M m := Nat.le_of_ble_eq_true g6
      have g7 := Nat.eq_of_beq_eq_true g7
      have g8 := Nat.eq_of_beq_eq_true g8
      obtain ⟨g9, hok⟩ := Bool.and_eq_true_iff.mp hok
      obtain ⟨g10, hok⟩ := Bool.and_eq_true_iff.mp hok
      have g9 : d < nK := Nat.le_of_ble_eq_true g9
      have g10 := of_decide_eq_true g10
      obtain ⟨hz, hrun⟩ := ez_bif hrun
      obtain ⟨r1, h1, c1, k1, y1, y2, y3, y4, y5, y6, y7⟩ := ez_go_ok hF hm hrun
      obtain ⟨-, hw⟩ := hF m _ _ _ _ _ _ _ _ _ _ hm y5
      refine ⟨⟨by omega, by omega⟩, ?_⟩
      intro D cI cJ p e R s mid args below meth co H locs lsA Q C hfr hlo hcc hkk hR hS hl hex
      have C0 := C
      obtain ⟨hx, hb, hml, hown, hts, hK, hX, hbl, hin⟩ := C
      obtain ⟨q, bs, fs, hq1, hq2⟩ := ez_isO_s (q := 0) hz
      have hst := ez_stk (S0 := S0) (b0 := b0) hq1
      rw [hq1] at y3 y4
      have hmet := ez_met hg D cI cJ hb0 hF (Nat.le_of_lt g4) (hM a g4) y4 y3
      obtain ⟨m1, m2, m3, m4, m5, m6, m7⟩ := hM a g4
      have hroom : (ez_rm M a c1 k1).frames + 1 ≤ R.frames ∧ 8 + (ez_mL M a + 11) + (ez_rm M a c1 k1).locals ≤ R.locals := ⟨by show ez_md M a + 1 ≤ _; omega, by show _ + ez_ml M a ≤ _; omega⟩
      have hlen : (bs.map (ez_mv S0 b0)).length = ez_mn M a := by
        have h9 := congrArg List.length hq1
        rw [List.length_reverse, List.length_take, Nat.min_eq_left y1] at h9
        rw [List.length_map]
        simp only [List.length_cons] at h9
        omega
      have hst2 : st.map (ez_mv S0 b0) = (bs.map (ez_mv S0 b0)).reverse ++ .ref (S0 + q) :: (st.drop b).map (ez_mv S0 b0) := by
        rw [hst]
        show (.ref (S0 + q) :: bs.map (ez_mv S0 b0)).reverse ++ _ = _
        simp
      have hrecv := va_recv hK hR.2 (hC d g9).1 (ez_ws_at hq2)
      rw [g10] at hrecv
      have hrest : 2 * (F0 mid pc lsA (st.map (ez_mv S0 b0))).monitorRoom + (((st.drop b).map (ez_mv S0 b0)).map fun v => v.category).sum ≤ 8 := lv_room (by rw [ez_cats_sum]; exact y2)
      have hpre : PreV s H (ez_my M a).cls (S0 + q) (ez_Pc tbl D cl S0 b0 cI cJ X (.ref q :: bs) h) (bs.map (ez_mv S0 b0)) := ⟨ez_blind, hrecv, fun U hU hW => ⟨rfl, by rw [hU]; exact hR, va_K.moved hW.alike hK, ez_X_kept hX hb0 hbl hS hU hW, ez_Nw.warm hW (ez_Nw.of hts)⟩⟩
      rcases Bool.or_eq_true_iff.mp hok with hwd | hwd
      · have cw : CallW R s args (ez_my M m).cls (ez_my M a).cls _ (ez_my M a) (ez_mb M a) (ez_mL M a) (ez_mr M a) (ez_wsm tbl M a) (ez_rm M a c1 k1) c1 k1 (ez_mn M a) := ⟨callB_of (ez_mn M a) hts (ez_good hg (hM a g4)) rfl rfl rfl (hts _ m4) (hts _ (ez_w_mem hwd)) m2 hroom, hts _ (m6 g8).1, hts _ (m6 g8).2⟩
        refine ez_back (rest := (st.drop b).map (ez_mv S0 b0)) (r := r1) (h' := h1) (va_runV (nL := ez_mL M m) ⟨hx, hb, hml, hown, hts⟩ hmet cw hpre rfl hlen hl.1 hst2 hrest hdg ⟨by omega, by omega⟩) hS fun H1 locs1 hR1 hS1 => ?_
        have hw := hw D cI cJ p e R s mid args below meth co H1 locs1 lsA Q C0 hfr hlo hcc hkk hR1 hS1 (ez_lv_take cut hl) hex
        rw [List.map_append] at hw
        have e1 : r1.toList.map (ez_mv S0 b0) = (r1.map (ez_mv S0 b0)).toList := by cases r1 <;> rfl
        rw [e1] at hw
        exact hw
      · have cw : va_CN R s args (ez_my M m).cls _ (ez_my M a) ez_host (ez_mb M a) (ez_mL M a) (ez_mr M a) (ez_wsm tbl M a) (ez_rm M a c1 k1) c1 k1 (ez_mn M a) := va_cnB (ez_mn M a) hts (ez_good hg (hM a g4)) rfl rfl rfl (va_Nw.of rfl (hts _ (ez_w_mem hwd))) (hts _ m4) m2 hroom
        refine ez_back (rest := (st.drop b).map (ez_mv S0 b0)) (r := r1) (h' := h1) (va_runVN (nL := ez_mL M m) ⟨hx, hb, hml, hown, hts⟩ hmet ⟨cw, hts _ (m6 g8).1, hts _ (m6 g8).2⟩ hpre rfl hlen hl.1 hst2 hrest hdg ⟨by omega, by omega⟩) hS fun H1 locs1 hR1 hS1 => ?_
        have hw := hw D cI cJ p e R s mid args below meth co H1 locs1 lsA Q C0 hfr hlo hcc hkk hR1 hS1 (ez_lv_take cut hl) hex
        rw [List.map_append] at hw
        have e1 : r1.toList.map (ez_mv S0 b0) = (r1.map (ez_mv S0 b0)).toList := by cases r1 <;> rfl
        rw [e1] at hw
        exact hw
    case invokestatic idx =>
      dsimp only at hrun
      obtain ⟨g0, hok2⟩ := Bool.and_eq_true_iff.mp hok
      clear hok
      obtain rfl : len = 3 := Nat.eq_of_beq_eq_true g0
      cases ha1 : Nat.beq a 901 with
      | true =>
        simp only [ha1, cond_true] at hok2 hrun
        split at hrun
        · rename_i y x r1
          obtain ⟨hz, hrun⟩ := ez_bif hrun
          obtain ⟨hc, hw⟩ := hF m _ _ _ _ _ _ _ _ _ _ hm hrun
          refine ⟨hc, ?_⟩
          intro D cI cJ p e R s mid args below meth co H locs lsA Q C hfr hlo hcc hkk hR hS hl hex
          have C0 := C
          obtain ⟨hx, hb, hml, hown, hts, hK, hX, hbl, hin⟩ := C
          obtain ⟨g1, hok2⟩ := Bool.and_eq_true_iff.mp hok2
          obtain ⟨g2, g3⟩ := Bool.and_eq_true_iff.mp hok2
          have g1 := Nat.le_of_ble_eq_true g1
          have g2 := Nat.le_of_ble_eq_true g2
          have hz := Nat.le_of_ble_eq_true hz
          exact va_mmax hx hb (hml.trans hl.1.symm) hown (hts _ (ez_w_mem g3)) (hts _ hmax.1) (hts _ hmax.2.1) (hts _ hmax.2.2) (by omega) (by rw [ez_cats_sum]; omega) (by omega) (by omega) hdg (hw D cI cJ p e R s mid args below meth co H locs lsA Q C0 hfr hlo hcc hkk hR hS (ez_lv_take cut hl) hex)
        · cases hrun
      | false =>
      cases ha2 : Nat.beq a 902 with
      | true =>
        simp only [ha1, ha2, cond_true, cond_false] at hok2 hrun
        split at hrun
        · rename_i y x r1
          obtain ⟨hz, hrun⟩ := ez_bif hrun
          obtain ⟨hc, hw⟩ := hF m _ _ _ _ _ _ _ _ _ _ hm hrun
          refine ⟨hc, ?_⟩
          intro D cI cJ p e R s mid args below meth co H locs lsA Q C hfr hlo hcc hkk hR hS hl hex
          have C0 := C
          obtain ⟨hx, hb, hml, hown, hts, hK, hX, hbl, hin⟩ := C
          obtain ⟨g1, hok2⟩ := Bool.and_eq_true_iff.mp hok2
          obtain ⟨g2, g3⟩ := Bool.and_eq_true_iff.mp hok2
          have g1 := Nat.le_of_ble_eq_true g1
          have g2 := Nat.le_of_ble_eq_true g2
          have hz := Nat.le_of_ble_eq_true hz
          exact va_mmin hx hb (hml.trans hl.1.symm) hown (hts _ (ez_w_mem g3)) (hts _ hmin.1) (hts _ hmax.2.1) (hts _ hmin.2) (by omega) (by rw [ez_cats_sum]; omega) (by omega) (by omega) hdg (hw D cI cJ p e R s mid args below meth co H locs lsA Q C0 hfr hlo hcc hkk hR hS (ez_lv_take cut hl) hex)
        · cases hrun
      | false =>
      simp only [ha1, ha2, cond_false] at hok2 hrun
      obtain ⟨g4, hok2⟩ := Bool.and_eq_true_iff.mp hok2
      obtain ⟨g5, hok2⟩ := Bool.and_eq_true_iff.mp hok2
      obtain ⟨g6, hok2⟩ := Bool.and_eq_true_iff.mp hok2
      obtain ⟨g7, hok2⟩ := Bool.and_eq_true_iff.mp hok2
      obtain ⟨g8, hok2⟩ := Bool.and_eq_true_iff.mp hok2
      have g4 : a < nM := Nat.le_of_ble_eq_true g4
      have g5 : ez_md M a < ez_md M m := Nat.le_of_ble_eq_true g5
      have g6 : 19 + ez_mL M a + ez_ml M a ≤ ez_ml M m := Nat.le_of_ble_eq_true g6
      have g7 := Nat.eq_of_beq_eq_true g7
      have g8 := Nat.eq_of_beq_eq_true g8
      obtain ⟨r1, h1, c1, k1, y1, y2, y3, y4, y5, y6, y7⟩ := ez_go_ok hF hm hrun
      obtain ⟨-, hw⟩ := hF m _ _ _ _ _ _ _ _ _ _ hm y5
      refine ⟨⟨by omega, by omega⟩, ?_⟩
      intro D cI cJ p e R s mid args below meth co H locs lsA Q C hfr hlo hcc hkk hR hS hl hex
      have C0 := C
      obtain ⟨hx, hb, hml, hown, hts, hK, hX, hbl, hin⟩ := C
      obtain ⟨bs, hq1⟩ : ∃ bs, (st.take b).reverse = bs := ⟨_, rfl⟩
      have hst := ez_stk (S0 := S0) (b0 := b0) hq1
      rw [hq1] at y3 y4
      have hmet := ez_met hg D cI cJ hb0 hF (Nat.le_of_lt g4) (hM a g4) y4 y3
      obtain ⟨m1, m2, m3, m4, m5, m6, m7⟩ := hM a g4
      have hroom : (ez_rm M a c1 k1).frames + 1 ≤ R.frames ∧ 8 + (ez_mL M a + 11) + (ez_rm M a c1 k1).locals ≤ R.locals := ⟨by show ez_md M a + 1 ≤ _; omega, by show _ + ez_ml M a ≤ _; omega⟩
      have hlen : (bs.map (ez_mv S0 b0)).length = ez_mn M a := by
        have h9 := congrArg List.length hq1
        rw [List.length_reverse, List.length_take, Nat.min_eq_left y1] at h9
        rw [List.length_map]
        omega
      have hrest : 2 * (F0 mid pc lsA (st.map (ez_mv S0 b0))).monitorRoom + (((st.drop b).map (ez_mv S0 b0)).map fun v => v.category).sum ≤ 8 := lv_room (by rw [ez_cats_sum]; exact y2)
      have hpre : PreS s H (ez_Pc tbl D cl S0 b0 cI cJ X bs h) (bs.map (ez_mv S0 b0)) := ⟨ez_blind, fun U hU hW => ⟨rfl, by rw [hU]; exact hR, va_K.moved hW.alike hK, ez_X_kept hX hb0 hbl hS hU hW, ez_Nw.warm hW (ez_Nw.of hts)⟩⟩
      rcases Bool.or_eq_true_iff.mp hok2 with hwd | hwd
      · have cw : CallB R s args (ez_my M m).cls _ (ez_my M a) (ez_mb M a) (ez_mL M a) (ez_mr M a) (ez_wsm tbl M a) (ez_rm M a c1 k1) c1 k1 (ez_mn M a) := callB_of (ez_mn M a) hts (ez_good hg (hM a g4)) rfl rfl rfl (hts _ m4) (hts _ (ez_w_mem hwd)) m2 hroom
        refine ez_back (rest := (st.drop b).map (ez_mv S0 b0)) (r := r1) (h' := h1) (va_runS (nL := ez_mL M m) ⟨hx, hb, hml, hown, hts⟩ hmet ⟨cw, hts _ (m5 g8)⟩ hpre rfl hlen hl.1 hst hrest hdg ⟨by omega, by omega⟩) hS fun H1 locs1 hR1 hS1 => ?_
        have hw := hw D cI cJ p e R s mid args below meth co H1 locs1 lsA Q C0 hfr hlo hcc hkk hR1 hS1 (ez_lv_take cut hl) hex
        rw [List.map_append] at hw
        have e1 : r1.toList.map (ez_mv S0 b0) = (r1.map (ez_mv S0 b0)).toList := by cases r1 <;> rfl
        rw [e1] at hw
        exact hw
      · have cw : va_CN R s args (ez_my M m).cls _ (ez_my M a) ez_host (ez_mb M a) (ez_mL M a) (ez_mr M a) (ez_wsm tbl M a) (ez_rm M a c1 k1) c1 k1 (ez_mn M a) := va_cnB (ez_mn M a) hts (ez_good hg (hM a g4)) rfl rfl rfl (va_Nw.of rfl (hts _ (ez_w_mem hwd))) (hts _ m4) m2 hroom
        refine ez_back (rest := (st.drop b).map (ez_mv S0 b0)) (r := r1) (h' := h1) (va_runSN (nL := ez_mL M m) ⟨hx, hb, hml, hown, hts⟩ hmet ⟨cw, hts _ (m5 g8), trivial⟩ hpre rfl hlen hl.1 hst hrest hdg ⟨by omega, by omega⟩) hS fun H1 locs1 hR1 hS1 => ?_
        have hw := hw D cI cJ p e R s mid args below meth co H1 locs1 lsA Q C0 hfr hlo hcc hkk hR1 hS1 (ez_lv_take cut hl) hex
        rw [List.map_append] at hw
        have e1 : r1.toList.map (ez_mv S0 b0) = (r1.map (ez_mv S0 b0)).toList := by cases r1 <;> rfl
        rw [e1] at hw
        exact hw
    case invokespecial idx =>
      dsimp only at hrun
      obtain ⟨g0, hok2⟩ := Bool.and_eq_true_iff.mp hok
      clear hok
      obtain rfl : len = 3 := Nat.eq_of_beq_eq_true g0
      cases ha1 : Nat.beq a 900 with
      | true =>
        simp only [ha1, cond_true] at hok2 hrun
        split at hrun
        · rename_i q r1
          obtain ⟨hz, hrun⟩ := ez_bif hrun
          obtain ⟨hc, hw⟩ := hF m _ _ _ _ _ _ _ _ _ _ hm hrun
          refine ⟨hc, ?_⟩
          intro D cI cJ p e R s mid args below meth co H locs lsA Q C hfr hlo hcc hkk hR hS hl hex
          have C0 := C
          obtain ⟨hx, hb, hml, hown, hts, hK, hX, hbl, hin⟩ := C
          obtain ⟨g1, hok2⟩ := Bool.and_eq_true_iff.mp hok2
          obtain ⟨g2, g3⟩ := Bool.and_eq_true_iff.mp hok2
          have g1 := Nat.le_of_ble_eq_true g1
          have g2 := Nat.le_of_ble_eq_true g2
          have hz := Nat.le_of_ble_eq_true hz
          have hrest : 2 * (F0 mid pc lsA ((Value.ref q :: r1).map (ez_mv S0 b0))).monitorRoom + ((r1.map (ez_mv S0 b0)).map fun v => v.category).sum ≤ 8 := lv_room (by rw [ez_cats_sum]; exact hz)
          exact W.objInit hx hb hown (hts _ (ez_w_mem g3)) (hts _ hobj.1) (hts _ hobj.2) rfl (hl.1.trans hml.symm) rfl hdg (by omega) (by omega) (hw D cI cJ p e R s mid args below meth co H locs lsA Q C0 hfr hlo hcc hkk hR hS (ez_lv_take cut hl) hex)
        · cases hrun
      | false =>
      simp only [ha1, cond_false] at hok2 hrun
      obtain ⟨g4, hok2⟩ := Bool.and_eq_true_iff.mp hok2
      obtain ⟨g5, hok2⟩ := Bool.and_eq_true_iff.mp hok2
      obtain ⟨g6, hok2⟩ := Bool.and_eq_true_iff.mp hok2
      obtain ⟨g7, hok2⟩ := Bool.and_eq_true_iff.mp hok2
      obtain ⟨g8, hok2⟩ := Bool.and_eq_true_iff.mp hok2
      have g4 : a < nM := Nat.le_of_ble_eq_true g4
      have g5 : ez_md M a < ez_md M m := Nat.le_of_ble_eq_true g5
      have g6 : 19 + ez_mL M a + ez_ml M a ≤ ez_ml M m := Nat.le_of_ble_eq_true g6
      have g7 := Nat.eq_of_beq_eq_true g7
      have g8 := Nat.eq_of_beq_eq_true g8
      obtain ⟨hz, hrun⟩ := ez_bif hrun
      obtain ⟨r1, h1, c1, k1, y1, y2, y3, y4, y5, y6, y7⟩ := ez_go_ok hF hm hrun
      obtain ⟨-, hw⟩ := hF m _ _ _ _ _ _ _ _ _ _ hm y5
      refine ⟨⟨by omega, by omega⟩, ?_⟩
      intro D cI cJ p e R s mid args below meth co H locs lsA Q C hfr hlo hcc hkk hR hS hl hex
      have C0 := C
      obtain ⟨hx, hb, hml, hown, hts, hK, hX, hbl, hin⟩ := C
      obtain ⟨q, bs, hq1⟩ := ez_isR_s hz
      have hst := ez_stk (S0 := S0) (b0 := b0) hq1
      rw [hq1] at y3 y4
      have hmet := ez_met hg D cI cJ hb0 hF (Nat.le_of_lt g4) (hM a g4) y4 y3
      obtain ⟨m1, m2, m3, m4, m5, m6, m7⟩ := hM a g4
      have hroom : (ez_rm M a c1 k1).frames + 1 ≤ R.frames ∧ 8 + (ez_mL M a + 11) + (ez_rm M a c1 k1).locals ≤ R.locals := ⟨by show ez_md M a + 1 ≤ _; omega, by show _ + ez_ml M a ≤ _; omega⟩
      have hlen : (bs.map (ez_mv S0 b0)).length = ez_mn M a := by
        have h9 := congrArg List.length hq1
        rw [List.length_reverse, List.length_take, Nat.min_eq_left y1] at h9
        rw [List.length_map]
        simp only [List.length_cons] at h9
        omega
      have hst2 : st.map (ez_mv S0 b0) = (bs.map (ez_mv S0 b0)).reverse ++ .ref (S0 + q) :: (st.drop b).map (ez_mv S0 b0) := by
        rw [hst]
        show (.ref (S0 + q) :: bs.map (ez_mv S0 b0)).reverse ++ _ = _
        simp
      have hrest : 2 * (F0 mid pc lsA (st.map (ez_mv S0 b0))).monitorRoom + (((st.drop b).map (ez_mv S0 b0)).map fun v => v.category).sum ≤ 8 := lv_room (by rw [ez_cats_sum]; exact y2)
      have hpre : PreS s H (ez_Pc tbl D cl S0 b0 cI cJ X (.ref q :: bs) h) (.ref (S0 + q) :: bs.map (ez_mv S0 b0)) := ⟨ez_blind, fun U hU hW => ⟨rfl, by rw [hU]; exact hR, va_K.moved hW.alike hK, ez_X_kept hX hb0 hbl hS hU hW, ez_Nw.warm hW (ez_Nw.of hts)⟩⟩
      have cw : CallB R s args (ez_my M m).cls _ (ez_my M a) (ez_mb M a) (ez_mL M a) none (ez_wsm tbl M a) (ez_rm M a c1 k1) c1 k1 (ez_mn M a) := callB_of (ws' := ez_tb.filter goodWord) (ez_mn M a) hts (ez_good hg (hM a g4)) (by unfold ez_wsm; rw [(m7 g8).2.2]) rfl rfl (hts _ m4) (hts _ (ez_w_mem hok2)) m2 hroom
      refine ez_back (rest := (st.drop b).map (ez_mv S0 b0)) (r := r1) (h' := h1) (va_runI (nL := ez_mL M m) ⟨hx, hb, hml, hown, hts⟩ hmet ⟨cw, (m7 g8).2.1, hts _ (m7 g8).1⟩ hpre rfl hlen hl.1 hst2 hrest hdg ⟨by omega, by omega⟩) hS fun H1 locs1 hR1 hS1 => ?_
      have hw := hw D cI cJ p e R s mid args below meth co H1 locs1 lsA Q C0 hfr hlo hcc hkk hR1 hS1 (ez_lv_take cut hl) hex
      rw [List.map_append] at hw
      have e1 : r1.toList.map (ez_mv S0 b0) = (r1.map (ez_mv S0 b0)).toList := by cases r1 <;> rfl
      rw [e1] at hw
      exact hw
    all_goals
      dsimp only at hrun
      split at hrun
      · rename_i ls1 st1 h1 hz
        obtain ⟨hc, hw⟩ := hF m _ _ _ _ _ _ _ _ _ _ hm hrun
        refine ⟨hc, ?_⟩
        intro D cI cJ p e R s mid args below meth co H locs lsA Q C hfr hlo hcc hkk hR hS hl hex
        have C0 := C
        obtain ⟨hx, hb, hml, hown, hts, hK, hX, hbl, hin⟩ := C
        exact ez_b_ok hC C0 hb0 hz hdg hok hR hS (ez_lv_take cut hl) fun H1 locs1 lsB hR1 hS1 hB => hw D cI cJ p e R s mid args below meth co H1 locs1 lsB Q C0 hfr hlo hcc hkk hR1 hS1 hB hex
      · cases hrun
end EZM
