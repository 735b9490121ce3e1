/-! The runner: every road from a place to the next told place, or to an end. -/
/-- what is asked of a method's start, where it may write, its ends -/
abbrev cx_K : Type := cx_S × List (Nat × Nat) × List cx_S
/-- told places: what holds there, and what falls from one to the next: (0, c) the number c, (1, s) how far the sign s may rise yet, (2, s) how far it may fall -/
abbrev cx_A : Type := cx_S × List (Nat × Nat)
def cx_val (σ : List Int) : Nat × Nat → Nat
  | (0, c) => c
  | (1, s) => (2147483648 - (σ[s]?).getD 0).toNat
  | (_, s) => ((σ[s]?).getD 0 + 2147483648).toNat
def cx_dec (iv : List cx_Iv) (cs : List cx_D3) (mu : List Nat) : List (Nat × Nat) → List (Nat × Nat) → Bool
  | (0, c) :: s, (0, d) :: t => Nat.blt c d && Nat.beq s.length t.length || Nat.beq c d && cx_dec iv cs mu s t
  | (1, a) :: s, (1, b) :: t => match mu[a]? with
    | some x => (match iv[x]? with
      | some p => decide (p.2 ≤ 2147483648) && (cx_ent 3 iv cs b x (-1) && Nat.beq s.length t.length)
      | none => false) || cx_ent 3 iv cs b x 0 && cx_dec iv cs mu s t
    | none => false
  | (2, a) :: s, (2, b) :: t => match mu[a]? with
    | some x => (match iv[x]? with
      | some p => decide (-2147483648 ≤ p.1) && (cx_ent 3 iv cs x b (-1) && Nat.beq s.length t.length)
      | none => false) || cx_ent 3 iv cs x b 0 && cx_dec iv cs mu s t
    | none => false
  | _, _ => false
def cx_cat : List cx_V → Nat
  | [] => 0
  | (k, _) :: t => (bif Nat.beq k 1 then 2 else 1) + cx_cat t
def cx_lay : List cx_V → List cx_V
  | [] => []
  | (k, s) :: t => bif Nat.beq k 1 then (k, s) :: (4, 0) :: cx_lay t else (k, s) :: cx_lay t
def cx_pure4 (A : List cx_V) : Bool := A.all fun e => Nat.ble e.1 3
def cx_phi (ne n : Nat) (mu : List Nat) (j : Nat) : Nat := bif Nat.blt j ne then (mu[j]?).getD 0 else n + (j - ne)
def cx_map1 (f : Nat → Nat) : cx_V → cx_V
  | (k, s) => bif Nat.ble k 1 then (k, f s) else (k, s)
def cx_meet : List cx_Iv → List Nat → List cx_Iv → Option (List cx_Iv)
  | p :: s, t :: u, iv => match cx_bnd t p (iv, []) with
    | some r => cx_meet s u r.1
    | none => none
  | _, _, iv => some iv
/-- behind a call that came to this end; none: it can't come to it -/
def cx_back (ne : Nat) (mu : List Nat) (md : List (Nat × Nat)) (S : cx_S) (rest : List cx_V) (E : cx_S) : Option cx_S := match S, E with
  | (ls, _, iv, cs, fs, cm), (_, st2, iv2, cs2, fs2, _) => match cx_meet (iv2.take ne) (mu.take ne) iv with
    | some iv' => (match cx_leqs (cs2.map fun e => (cx_phi ne iv.length mu e.1, cx_phi ne iv.length mu e.2.1, e.2.2)) (iv' ++ iv2.drop ne, cs) with
      | some c => some (ls, st2.map (cx_map1 (cx_phi ne iv.length mu)) ++ rest, c.1, c.2,
          fs2.map (fun e => (e.1, e.2.1, cx_phi ne iv.length mu e.2.2)) ++ fs.filter (fun e => !cx_may md e.1 e.2.1), cm)
      | none => none)
    | none => none
def cx_argk (B : Nat → Nat → cx_Iv) (md : List (Nat × Nat)) (K : cx_K) (S : cx_S) (args : List cx_V) : Option (List Nat × cx_S) := match cx_aug B K.1.2.2.2.2.1 S with
  | (ls, st, iv, cs, fs, cm) => bif K.2.1.all (fun e => cx_may md e.1 e.2 && (bif Nat.beq e.2 999 then cx_all md e.1 else true)) then (match cx_imp 0 (cx_lay args, [], iv, cs, fs, []) K.1 with
    | some mu => bif Nat.beq mu.length K.1.2.2.1.length then some (mu, (ls, st, iv, cs, fs, cm)) else none
    | none => none) else none
def cx_ends (B : Nat → Nat → cx_Iv) (K : cx_K) (S : cx_S) : Bool := K.2.2.any fun E => (cx_imp K.1.2.2.1.length (cx_aug B E.2.2.2.2.1 S) E).isSome
def cx_goes (B : Nat → Nat → cx_Iv) (G : List (Nat × cx_K)) (K : cx_K) (nx : Nat → cx_S → Bool) (pc a b : Nat) : cx_S → Bool
  | (ls, st, iv, cs, fs, cm) => Nat.ble b st.length && (Nat.ble (cx_cat (st.drop b)) 8 && (Nat.ble (cx_cat (st.take b).reverse) (ez_mL ez_M0 a) && (cx_pure4 st && G.any fun g => Nat.beq g.1 a && (match cx_argk B K.2.1 g.2 (ls, st, iv, cs, fs, cm) (st.take b).reverse with
    | some (mu, S') => g.2.2.2.all fun E => match cx_back g.2.1.2.2.1.length mu g.2.2.1 S' (st.drop b) E with
      | some S2 => nx (pc + 3) S2
      | none => true
    | none => false))))
def cx_fork (nx : Nat → cx_S → Bool) (a pc : Nat) (ls r : List cx_V) (fs cm : List (Nat × Nat × Nat)) (c1 c2 : Option (List cx_Iv × List cx_D3)) : Bool :=
  (match c1 with
    | some c => nx a (ls, r, c.1, c.2, fs, cm)
    | none => true) && (match c2 with
    | some c => nx (pc + 3) (ls, r, c.1, c.2, fs, cm)
    | none => true)
def cx_one (sc : Bool) (B : Nat → Nat → cx_Iv) (G : List (Nat × cx_K)) (K : cx_K) (nx : Nat → cx_S → Bool) (pc : Nat) (i : Instr) (len a b d : Nat) : cx_S → Bool
  | (ls, st, iv, cs, fs, cm) => match i with
    | .goto _ => nx a (ls, st, iv, cs, fs, cm)
    | .if_icmp o _ => (match st with
      | (0, y) :: (0, x) :: r => cx_fork nx a pc ls r fs cm (cx_icmp o x y (iv, cs)) (cx_icmp (cx_neg o) x y (iv, cs))
      | _ => false)
    | .ifCond o _ => (match st with
      | (0, x) :: r => (match cm.find? (fun e => Nat.beq e.1 x) with
        | some e => cx_fork nx a pc ls r fs cm (cx_icmp o e.2.1 e.2.2 (iv, cs)) (cx_icmp (cx_neg o) e.2.1 e.2.2 (iv, cs))
        | none => cx_fork nx a pc ls r fs cm (cx_icz o x (iv, cs)) (cx_icz (cx_neg o) x (iv, cs)))
      | _ => false)
    | .tableswitch dflt lo hi offs => (match st with
      | (0, _) :: r => decide (hi - lo < (offs.size : Int)) && ((match ez_tg pc dflt with
        | some q => nx q (ls, r, iv, cs, fs, cm)
        | none => false) && offs.toList.all fun off => match ez_tg pc off with
          | some q => nx q (ls, r, iv, cs, fs, cm)
          | none => false)
      | _ => false)
    | .ireturn => (match st with
      | [(0, x)] => (match iv[x]? with
        | some p => (Nat.beq b 0 || cx_inn p (0, 1)) && cx_ends B K ([], st, iv, cs, fs, [])
        | none => false)
      | _ => false)
    | .lreturn => (match st with
      | [(1, _)] => cx_ends B K ([], st, iv, cs, fs, [])
      | _ => false)
    | .areturn => (match st with
      | [(2, _)] => cx_ends B K ([], st, iv, cs, fs, [])
      | _ => false)
    | .return_ => (match st with
      | [] => cx_ends B K ([], st, iv, cs, fs, [])
      | _ => false)
    | .invokevirtual _ => (match (st.take b).reverse with
      | (2, p) :: _ => (match cx_Ds[p]? with
        | some (_ + 2, c, _) => Nat.beq c d && cx_goes B G K nx pc a b (ls, st, iv, cs, fs, cm)
        | _ => false)
      | _ => false)
    | .invokestatic _ => bif Nat.beq a 901 || Nat.beq a 902 then (match st with
        | (0, y) :: (0, x) :: r => (match iv[x]?, iv[y]? with
          | some p, some q => cx_pure4 r && (Nat.ble (cx_cat r) 8 && nx (pc + 3) (ls, (0, iv.length) :: r, iv ++ [bif Nat.beq a 901 then (max p.1 q.1, max p.2 q.2) else (min p.1 q.1, min p.2 q.2)], cs, fs, cm))
          | _, _ => false)
        | _ => false) else cx_goes B G K nx pc a b (ls, st, iv, cs, fs, cm)
    | .invokespecial _ => bif Nat.beq a 900 then false else (match (st.take b).reverse with
      | (2, _) :: _ => cx_goes B G K nx pc a b (ls, st, iv, cs, fs, cm)
      | _ => false)
    | i => match cx_b sc B K.2.1 i a b (ls, st, iv, cs, fs, cm) with
      | some S' => nx (pc + len) S'
      | none => false
/-- at a told place -/
def cx_stop (B : Nat → Nat → cx_Iv) (K : cx_K) (m : Nat) (org : Option (List (Nat × Nat))) (pc : Nat) (A : cx_A) (S : cx_S) : Bool := match ez_P0 m pc with
  | some (_, _, _, _, cut, _, _) => (match cx_aug B A.1.2.2.2.2.1 (cx_cut cut S.1, S.2) with
    | (ls, st, iv, cs, fs, cm) => (match cx_imp K.1.2.2.1.length (ls, st, iv, cs, fs, cm) A.1 with
      | some mu => (match org with
        | none => true
        | some rk0 => cx_dec iv cs mu A.2 rk0)
      | none => false))
  | none => false
def cx_run (sc : Bool) (B : Nat → Nat → cx_Iv) (G : List (Nat × cx_K)) (K : cx_K) (m : Nat) (An : Nat → Option cx_A) (org : Option (List (Nat × Nat))) : Nat → Bool → Nat → cx_S → Bool
  | 0, _, _, _ => false
  | n + 1, first, pc, S => match bif first then none else An pc with
    | some A => cx_stop B K m org pc A S
    | none => match ez_P0 m pc with
      | none => false
      | some (i, len, a, b, cut, _, d) => cx_one sc B G K (cx_run sc B G K m An org n false) pc i len a b d (cx_cut cut S.1, S.2)
