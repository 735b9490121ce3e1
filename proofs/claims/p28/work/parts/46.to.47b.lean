section
/-! New objects made. -/
noncomputable abbrev rw_h0 : ez_H := []
noncomputable abbrev rw_h1 : ez_H := [.inr (11, [.null, .null, .null, .null, .null, .null, .null, .null, .null, .null])]
noncomputable abbrev rw_h2 : ez_H := [.inr (11, [.null, .null, .null, .null, .null, .null, .null, .null, .null, .null]), .inr (9, [.null, .int 0, .int 0, .int 0, .int 0, .int 0, .int 0, .long 0, .long 0, .long 0])]
noncomputable abbrev rw_h3 : ez_H := [.inr (11, [.null, .null, .null, .null, .null, .null, .null, .null, .null, .null]), .inr (9, [.ref 2, .int 0, .int 0, .int 0, .int 0, .int 0, .int 0, .long 0, .long 0, .long 0]), .inl (3, .inl (fun _ => 0))]
noncomputable abbrev rw_h4 : ez_H := [.inr (11, [.null, .null, .null, .null, .null, .null, .null, .null, .null, .null]), .inr (9, [.ref 2, .int 0, .int 0, .int 0, .int 0, .int 0, .int 0, .long 0, .long 0, .long 0]), .inl (3, .inl (upd (fun _ => 0) 1 1))]
noncomputable abbrev rw_h5 : ez_H := [.inr (11, [.null, .null, .null, .null, .null, .null, .null, .null, .null, .null]), .inr (9, [.ref 2, .int 0, .int 0, .int 5, .int 5, .int 0, .int 25, .long 0, .long 0, .long 0]), .inl (3, .inl (upd (fun _ => 0) 1 1))]
noncomputable abbrev rw_h6 : ez_H := [.inr (11, [.null, .null, .null, .null, .null, .null, .null, .null, .null, .null]), .inr (9, [.ref 2, .int 0, .int 0, .int 5, .int 5, .int 0, .int 25, .long 33554431, .long 0, .long 0]), .inl (3, .inl (upd (fun _ => 0) 1 1))]
noncomputable abbrev rw_h7 : ez_H := [.inr (11, [.null, .null, .null, .null, .null, .null, .null, .null, .null, .null]), .inr (9, [.ref 2, .int 0, .int 0, .int 5, .int 5, .int 0, .int 25, .long 33554431, .long 1, .long 0]), .inl (3, .inl (upd (fun _ => 0) 1 1))]
noncomputable abbrev rw_h8 : ez_H := [.inr (11, [.null, .null, .null, .null, .null, .null, .null, .null, .null, .null]), .inr (9, [.ref 2, .int 0, .int 0, .int 5, .int 5, .int 0, .int 25, .long 33554431, .long 33, .long 0]), .inl (3, .inl (upd (fun _ => 0) 1 1))]
noncomputable abbrev rw_h9 : ez_H := [.inr (11, [.null, .null, .null, .null, .null, .null, .null, .null, .null, .null]), .inr (9, [.ref 2, .int 0, .int 0, .int 5, .int 5, .int 0, .int 25, .long 33554431, .long 1057, .long 0]), .inl (3, .inl (upd (fun _ => 0) 1 1))]
noncomputable abbrev rw_h10 : ez_H := [.inr (11, [.null, .null, .null, .null, .null, .null, .null, .null, .null, .null]), .inr (9, [.ref 2, .int 0, .int 0, .int 5, .int 5, .int 0, .int 25, .long 33554431, .long 33825, .long 0]), .inl (3, .inl (upd (fun _ => 0) 1 1))]
noncomputable abbrev rw_h11 : ez_H := [.inr (11, [.null, .null, .null, .null, .null, .null, .null, .null, .null, .null]), .inr (9, [.ref 2, .int 0, .int 0, .int 5, .int 5, .int 0, .int 25, .long 33554431, .long 1082401, .long 0]), .inl (3, .inl (upd (fun _ => 0) 1 1))]
noncomputable abbrev rw_h12 : ez_H := [.inr (11, [.null, .null, .null, .null, .null, .null, .null, .null, .null, .null]), .inr (9, [.ref 2, .int 0, .int 0, .int 5, .int 5, .int 0, .int 25, .long 33554431, .long 1082401, .long 17318416]), .inl (3, .inl (upd (fun _ => 0) 1 1))]
noncomputable abbrev rw_h13 : ez_H := [.inr (11, [.ref 1, .null, .null, .null, .null, .null, .null, .null, .null, .null]), .inr (9, [.ref 2, .int 0, .int 0, .int 5, .int 5, .int 0, .int 25, .long 33554431, .long 1082401, .long 17318416]), .inl (3, .inl (upd (fun _ => 0) 1 1)), .inr (2, [.null, .null, .null, .int 0])]
noncomputable abbrev rw_h14 : ez_H := [.inr (11, [.ref 1, .null, .null, .null, .null, .null, .null, .null, .null, .null]), .inr (9, [.ref 2, .int 0, .int 0, .int 5, .int 5, .int 0, .int 25, .long 33554431, .long 1082401, .long 17318416]), .inl (3, .inl (upd (fun _ => 0) 1 1)), .inr (2, [.ref 1, .ref 4, .ref 5, .int 0]), .inl (864, .inr (.inl (fun _ => 0))), .inl (3, .inl (fun _ => 0))]
noncomputable abbrev rw_h15 : ez_H := [.inr (11, [.ref 1, .ref 3, .null, .null, .null, .null, .null, .null, .null, .null]), .inr (9, [.ref 2, .int 0, .int 0, .int 5, .int 5, .int 0, .int 25, .long 33554431, .long 1082401, .long 17318416]), .inl (3, .inl (upd (fun _ => 0) 1 1)), .inr (2, [.ref 1, .ref 4, .ref 5, .int 0]), .inl (864, .inr (.inl (fun _ => 0))), .inl (3, .inl (fun _ => 0)), .inr (8, [.null, .null, .null, .int 0, .int 0])]
noncomputable abbrev rw_h16 : ez_H := [.inr (11, [.ref 1, .ref 3, .null, .null, .null, .null, .null, .null, .null, .null]), .inr (9, [.ref 2, .int 0, .int 0, .int 5, .int 5, .int 0, .int 25, .long 33554431, .long 1082401, .long 17318416]), .inl (3, .inl (upd (fun _ => 0) 1 1)), .inr (2, [.ref 1, .ref 4, .ref 5, .int 0]), .inl (864, .inr (.inl (fun _ => 0))), .inl (3, .inl (fun _ => 0)), .inr (8, [.ref 1, .ref 3, .ref 7, .int 0, .int 0]), .inl (0, .inl (fun _ => 0))]
noncomputable abbrev rw_h17 : ez_H := [.inr (11, [.ref 1, .ref 3, .ref 6, .null, .null, .null, .null, .null, .null, .null]), .inr (9, [.ref 2, .int 0, .int 0, .int 5, .int 5, .int 0, .int 25, .long 33554431, .long 1082401, .long 17318416]), .inl (3, .inl (upd (fun _ => 0) 1 1)), .inr (2, [.ref 1, .ref 4, .ref 5, .int 0]), .inl (864, .inr (.inl (fun _ => 0))), .inl (3, .inl (fun _ => 0)), .inr (8, [.ref 1, .ref 3, .ref 7, .int 0, .int 0]), .inl (0, .inl (fun _ => 0)), .inr (6, [.null, .int 0, .long 0, .long 0])]
noncomputable abbrev rw_h18 : ez_H := [.inr (11, [.ref 1, .ref 3, .ref 6, .null, .null, .null, .null, .null, .null, .null]), .inr (9, [.ref 2, .int 0, .int 0, .int 5, .int 5, .int 0, .int 25, .long 33554431, .long 1082401, .long 17318416]), .inl (3, .inl (upd (fun _ => 0) 1 1)), .inr (2, [.ref 1, .ref 4, .ref 5, .int 0]), .inl (864, .inr (.inl (fun _ => 0))), .inl (3, .inl (fun _ => 0)), .inr (8, [.ref 1, .ref 3, .ref 7, .int 0, .int 0]), .inl (0, .inl (fun _ => 0)), .inr (6, [.ref 9, .int 0, .long 0, .long 0]), .inl (30, .inr (.inl (fun _ => 0)))]
noncomputable abbrev rw_h19 : ez_H := [.inr (11, [.ref 1, .ref 3, .ref 6, .ref 8, .null, .null, .null, .null, .null, .null]), .inr (9, [.ref 2, .int 0, .int 0, .int 5, .int 5, .int 0, .int 25, .long 33554431, .long 1082401, .long 17318416]), .inl (3, .inl (upd (fun _ => 0) 1 1)), .inr (2, [.ref 1, .ref 4, .ref 5, .int 0]), .inl (864, .inr (.inl (fun _ => 0))), .inl (3, .inl (fun _ => 0)), .inr (8, [.ref 1, .ref 3, .ref 7, .int 0, .int 0]), .inl (0, .inl (fun _ => 0)), .inr (6, [.ref 9, .int 0, .long 0, .long 0]), .inl (30, .inr (.inl (fun _ => 0))), .inr (7, [.null, .null, .null, .null, .null, .null])]
noncomputable abbrev rw_h20 : ez_H := [.inr (11, [.ref 1, .ref 3, .ref 6, .ref 8, .null, .null, .null, .null, .null, .null]), .inr (9, [.ref 2, .int 0, .int 0, .int 5, .int 5, .int 0, .int 25, .long 33554431, .long 1082401, .long 17318416]), .inl (3, .inl (upd (fun _ => 0) 1 1)), .inr (2, [.ref 1, .ref 4, .ref 5, .int 0]), .inl (864, .inr (.inl (fun _ => 0))), .inl (3, .inl (fun _ => 0)), .inr (8, [.ref 1, .ref 3, .ref 7, .int 0, .int 0]), .inl (0, .inl (fun _ => 0)), .inr (6, [.ref 9, .int 0, .long 0, .long 0]), .inl (30, .inr (.inl (fun _ => 0))), .inr (7, [.ref 1, .ref 3, .ref 6, .ref 8, .null, .null])]
noncomputable abbrev rw_h21 : ez_H := [.inr (11, [.ref 1, .ref 3, .ref 6, .ref 8, .null, .null, .null, .null, .null, .null]), .inr (9, [.ref 2, .int 0, .int 0, .int 5, .int 5, .int 0, .int 25, .long 33554431, .long 1082401, .long 17318416]), .inl (3, .inl (upd (fun _ => 0) 1 1)), .inr (2, [.ref 1, .ref 4, .ref 5, .int 0]), .inl (864, .inr (.inl (fun _ => 0))), .inl (3, .inl (fun _ => 0)), .inr (8, [.ref 1, .ref 3, .ref 7, .int 0, .int 0]), .inl (0, .inl (fun _ => 0)), .inr (6, [.ref 9, .int 0, .long 0, .long 0]), .inl (30, .inr (.inl (fun _ => 0))), .inr (7, [.ref 1, .ref 3, .ref 6, .ref 8, .ref 11, .ref 12]), .inl (3, .inr (.inl (fun _ => 0))), .inl (3, .inr (.inl (fun _ => 0)))]
noncomputable abbrev rw_h22 : ez_H := [.inr (11, [.ref 1, .ref 3, .ref 6, .ref 8, .ref 10, .null, .null, .null, .null, .null]), .inr (9, [.ref 2, .int 0, .int 0, .int 5, .int 5, .int 0, .int 25, .long 33554431, .long 1082401, .long 17318416]), .inl (3, .inl (upd (fun _ => 0) 1 1)), .inr (2, [.ref 1, .ref 4, .ref 5, .int 0]), .inl (864, .inr (.inl (fun _ => 0))), .inl (3, .inl (fun _ => 0)), .inr (8, [.ref 1, .ref 3, .ref 7, .int 0, .int 0]), .inl (0, .inl (fun _ => 0)), .inr (6, [.ref 9, .int 0, .long 0, .long 0]), .inl (30, .inr (.inl (fun _ => 0))), .inr (7, [.ref 1, .ref 3, .ref 6, .ref 8, .ref 11, .ref 12]), .inl (3, .inr (.inl (fun _ => 0))), .inl (3, .inr (.inl (fun _ => 0))), .inr (4, [.null, .null, .null, .null, .null, .null, .null, .null, .int 0, .int 0])]
noncomputable abbrev rw_h23 : ez_H := [.inr (11, [.ref 1, .ref 3, .ref 6, .ref 8, .ref 10, .null, .null, .null, .null, .null]), .inr (9, [.ref 2, .int 0, .int 0, .int 5, .int 5, .int 0, .int 25, .long 33554431, .long 1082401, .long 17318416]), .inl (3, .inl (upd (fun _ => 0) 1 1)), .inr (2, [.ref 1, .ref 4, .ref 5, .int 0]), .inl (864, .inr (.inl (fun _ => 0))), .inl (3, .inl (fun _ => 0)), .inr (8, [.ref 1, .ref 3, .ref 7, .int 0, .int 0]), .inl (0, .inl (fun _ => 0)), .inr (6, [.ref 9, .int 0, .long 0, .long 0]), .inl (30, .inr (.inl (fun _ => 0))), .inr (7, [.ref 1, .ref 3, .ref 6, .ref 8, .ref 11, .ref 12]), .inl (3, .inr (.inl (fun _ => 0))), .inl (3, .inr (.inl (fun _ => 0))), .inr (4, [.ref 1, .ref 6, .ref 8, .ref 10, .null, .null, .null, .null, .int 0, .int 0]), .inr (10, [.null, .null, .int 0])]
noncomputable abbrev rw_h24 : ez_H := [.inr (11, [.ref 1, .ref 3, .ref 6, .ref 8, .ref 10, .null, .null, .null, .null, .null]), .inr (9, [.ref 2, .int 0, .int 0, .int 5, .int 5, .int 0, .int 25, .long 33554431, .long 1082401, .long 17318416]), .inl (3, .inl (upd (fun _ => 0) 1 1)), .inr (2, [.ref 1, .ref 4, .ref 5, .int 0]), .inl (864, .inr (.inl (fun _ => 0))), .inl (3, .inl (fun _ => 0)), .inr (8, [.ref 1, .ref 3, .ref 7, .int 0, .int 0]), .inl (0, .inl (fun _ => 0)), .inr (6, [.ref 9, .int 0, .long 0, .long 0]), .inl (30, .inr (.inl (fun _ => 0))), .inr (7, [.ref 1, .ref 3, .ref 6, .ref 8, .ref 11, .ref 12]), .inl (3, .inr (.inl (fun _ => 0))), .inl (3, .inr (.inl (fun _ => 0))), .inr (4, [.ref 1, .ref 6, .ref 8, .ref 10, .null, .null, .null, .null, .int 0, .int 0]), .inr (10, [.ref 15, .ref 16, .int 0]), .inl (36, .inl (fun _ => 0)), .inl (36, .inl (fun _ => 0))]
noncomputable abbrev rw_h25 : ez_H := [.inr (11, [.ref 1, .ref 3, .ref 6, .ref 8, .ref 10, .null, .null, .null, .null, .null]), .inr (9, [.ref 2, .int 0, .int 0, .int 5, .int 5, .int 0, .int 25, .long 33554431, .long 1082401, .long 17318416]), .inl (3, .inl (upd (fun _ => 0) 1 1)), .inr (2, [.ref 1, .ref 4, .ref 5, .int 0]), .inl (864, .inr (.inl (fun _ => 0))), .inl (3, .inl (fun _ => 0)), .inr (8, [.ref 1, .ref 3, .ref 7, .int 0, .int 0]), .inl (0, .inl (fun _ => 0)), .inr (6, [.ref 9, .int 0, .long 0, .long 0]), .inl (30, .inr (.inl (fun _ => 0))), .inr (7, [.ref 1, .ref 3, .ref 6, .ref 8, .ref 11, .ref 12]), .inl (3, .inr (.inl (fun _ => 0))), .inl (3, .inr (.inl (fun _ => 0))), .inr (4, [.ref 1, .ref 6, .ref 8, .ref 10, .ref 14, .ref 17, .ref 18, .ref 19, .int 0, .int 0]), .inr (10, [.ref 15, .ref 16, .int 0]), .inl (36, .inl (fun _ => 0)), .inl (36, .inl (fun _ => 0)), .inl (0, .inr (.inl (fun _ => 0))), .inl (0, .inr (.inl (fun _ => 0))), .inl (0, .inr (.inl (fun _ => 0)))]
noncomputable abbrev rw_h26 : ez_H := [.inr (11, [.ref 1, .ref 3, .ref 6, .ref 8, .ref 10, .ref 13, .null, .null, .null, .null]), .inr (9, [.ref 2, .int 0, .int 0, .int 5, .int 5, .int 0, .int 25, .long 33554431, .long 1082401, .long 17318416]), .inl (3, .inl (upd (fun _ => 0) 1 1)), .inr (2, [.ref 1, .ref 4, .ref 5, .int 0]), .inl (864, .inr (.inl (fun _ => 0))), .inl (3, .inl (fun _ => 0)), .inr (8, [.ref 1, .ref 3, .ref 7, .int 0, .int 0]), .inl (0, .inl (fun _ => 0)), .inr (6, [.ref 9, .int 0, .long 0, .long 0]), .inl (30, .inr (.inl (fun _ => 0))), .inr (7, [.ref 1, .ref 3, .ref 6, .ref 8, .ref 11, .ref 12]), .inl (3, .inr (.inl (fun _ => 0))), .inl (3, .inr (.inl (fun _ => 0))), .inr (4, [.ref 1, .ref 6, .ref 8, .ref 10, .ref 14, .ref 17, .ref 18, .ref 19, .int 0, .int 0]), .inr (10, [.ref 15, .ref 16, .int 0]), .inl (36, .inl (fun _ => 0)), .inl (36, .inl (fun _ => 0)), .inl (0, .inr (.inl (fun _ => 0))), .inl (0, .inr (.inl (fun _ => 0))), .inl (0, .inr (.inl (fun _ => 0))), .inr (5, [.null, .null, .null, .int 0, .int 0, .int 0, .int 0])]
noncomputable abbrev rw_h27 : ez_H := [.inr (11, [.ref 1, .ref 3, .ref 6, .ref 8, .ref 10, .ref 13, .null, .null, .null, .null]), .inr (9, [.ref 2, .int 0, .int 0, .int 5, .int 5, .int 0, .int 25, .long 33554431, .long 1082401, .long 17318416]), .inl (3, .inl (upd (fun _ => 0) 1 1)), .inr (2, [.ref 1, .ref 4, .ref 5, .int 0]), .inl (864, .inr (.inl (fun _ => 0))), .inl (3, .inl (fun _ => 0)), .inr (8, [.ref 1, .ref 3, .ref 7, .int 0, .int 0]), .inl (0, .inl (fun _ => 0)), .inr (6, [.ref 9, .int 0, .long 0, .long 0]), .inl (30, .inr (.inl (fun _ => 0))), .inr (7, [.ref 1, .ref 3, .ref 6, .ref 8, .ref 11, .ref 12]), .inl (3, .inr (.inl (fun _ => 0))), .inl (3, .inr (.inl (fun _ => 0))), .inr (4, [.ref 1, .ref 6, .ref 8, .ref 10, .ref 14, .ref 17, .ref 18, .ref 19, .int 0, .int 0]), .inr (10, [.ref 15, .ref 16, .int 0]), .inl (36, .inl (fun _ => 0)), .inl (36, .inl (fun _ => 0)), .inl (0, .inr (.inl (fun _ => 0))), .inl (0, .inr (.inl (fun _ => 0))), .inl (0, .inr (.inl (fun _ => 0))), .inr (5, [.ref 6, .ref 13, .ref 21, .int 0, .int 0, .int 0, .int 0]), .inl (1296, .inl (fun _ => 0))]
noncomputable abbrev rw_h28 : ez_H := [.inr (11, [.ref 1, .ref 3, .ref 6, .ref 8, .ref 10, .ref 13, .ref 20, .null, .null, .null]), .inr (9, [.ref 2, .int 0, .int 0, .int 5, .int 5, .int 0, .int 25, .long 33554431, .long 1082401, .long 17318416]), .inl (3, .inl (upd (fun _ => 0) 1 1)), .inr (2, [.ref 1, .ref 4, .ref 5, .int 0]), .inl (864, .inr (.inl (fun _ => 0))), .inl (3, .inl (fun _ => 0)), .inr (8, [.ref 1, .ref 3, .ref 7, .int 0, .int 0]), .inl (0, .inl (fun _ => 0)), .inr (6, [.ref 9, .int 0, .long 0, .long 0]), .inl (30, .inr (.inl (fun _ => 0))), .inr (7, [.ref 1, .ref 3, .ref 6, .ref 8, .ref 11, .ref 12]), .inl (3, .inr (.inl (fun _ => 0))), .inl (3, .inr (.inl (fun _ => 0))), .inr (4, [.ref 1, .ref 6, .ref 8, .ref 10, .ref 14, .ref 17, .ref 18, .ref 19, .int 0, .int 0]), .inr (10, [.ref 15, .ref 16, .int 0]), .inl (36, .inl (fun _ => 0)), .inl (36, .inl (fun _ => 0)), .inl (0, .inr (.inl (fun _ => 0))), .inl (0, .inr (.inl (fun _ => 0))), .inl (0, .inr (.inl (fun _ => 0))), .inr (5, [.ref 6, .ref 13, .ref 21, .int 0, .int 0, .int 0, .int 0]), .inl (1296, .inl (fun _ => 0)), .inr (0, [.null, .null, .null, .null, .null, .null, .null, .null, .int 0, .null, .int 0, .int 0])]
noncomputable abbrev rw_h29 : ez_H := [.inr (11, [.ref 1, .ref 3, .ref 6, .ref 8, .ref 10, .ref 13, .ref 20, .null, .null, .null]), .inr (9, [.ref 2, .int 0, .int 0, .int 5, .int 5, .int 0, .int 25, .long 33554431, .long 1082401, .long 17318416]), .inl (3, .inl (upd (fun _ => 0) 1 1)), .inr (2, [.ref 1, .ref 4, .ref 5, .int 0]), .inl (864, .inr (.inl (fun _ => 0))), .inl (3, .inl (fun _ => 0)), .inr (8, [.ref 1, .ref 3, .ref 7, .int 0, .int 0]), .inl (0, .inl (fun _ => 0)), .inr (6, [.ref 9, .int 0, .long 0, .long 0]), .inl (30, .inr (.inl (fun _ => 0))), .inr (7, [.ref 1, .ref 3, .ref 6, .ref 8, .ref 11, .ref 12]), .inl (3, .inr (.inl (fun _ => 0))), .inl (3, .inr (.inl (fun _ => 0))), .inr (4, [.ref 1, .ref 6, .ref 8, .ref 10, .ref 14, .ref 17, .ref 18, .ref 19, .int 0, .int 0]), .inr (10, [.ref 15, .ref 16, .int 0]), .inl (36, .inl (fun _ => 0)), .inl (36, .inl (fun _ => 0)), .inl (0, .inr (.inl (fun _ => 0))), .inl (0, .inr (.inl (fun _ => 0))), .inl (0, .inr (.inl (fun _ => 0))), .inr (5, [.ref 6, .ref 13, .ref 21, .int 0, .int 0, .int 0, .int 0]), .inl (1296, .inl (fun _ => 0)), .inr (0, [.ref 1, .ref 3, .ref 6, .null, .null, .null, .null, .null, .int 0, .null, .int 0, .int 0]), .inr (10, [.null, .null, .int 0])]
noncomputable abbrev rw_h30 : ez_H := [.inr (11, [.ref 1, .ref 3, .ref 6, .ref 8, .ref 10, .ref 13, .ref 20, .null, .null, .null]), .inr (9, [.ref 2, .int 0, .int 0, .int 5, .int 5, .int 0, .int 25, .long 33554431, .long 1082401, .long 17318416]), .inl (3, .inl (upd (fun _ => 0) 1 1)), .inr (2, [.ref 1, .ref 4, .ref 5, .int 0]), .inl (864, .inr (.inl (fun _ => 0))), .inl (3, .inl (fun _ => 0)), .inr (8, [.ref 1, .ref 3, .ref 7, .int 0, .int 0]), .inl (0, .inl (fun _ => 0)), .inr (6, [.ref 9, .int 0, .long 0, .long 0]), .inl (30, .inr (.inl (fun _ => 0))), .inr (7, [.ref 1, .ref 3, .ref 6, .ref 8, .ref 11, .ref 12]), .inl (3, .inr (.inl (fun _ => 0))), .inl (3, .inr (.inl (fun _ => 0))), .inr (4, [.ref 1, .ref 6, .ref 8, .ref 10, .ref 14, .ref 17, .ref 18, .ref 19, .int 0, .int 0]), .inr (10, [.ref 15, .ref 16, .int 0]), .inl (36, .inl (fun _ => 0)), .inl (36, .inl (fun _ => 0)), .inl (0, .inr (.inl (fun _ => 0))), .inl (0, .inr (.inl (fun _ => 0))), .inl (0, .inr (.inl (fun _ => 0))), .inr (5, [.ref 6, .ref 13, .ref 21, .int 0, .int 0, .int 0, .int 0]), .inl (1296, .inl (fun _ => 0)), .inr (0, [.ref 1, .ref 3, .ref 6, .null, .null, .null, .null, .null, .int 0, .null, .int 0, .int 0]), .inr (10, [.ref 24, .ref 25, .int 0]), .inl (36, .inl (fun _ => 0)), .inl (36, .inl (fun _ => 0))]
noncomputable abbrev rw_h31 : ez_H := [.inr (11, [.ref 1, .ref 3, .ref 6, .ref 8, .ref 10, .ref 13, .ref 20, .null, .null, .null]), .inr (9, [.ref 2, .int 0, .int 0, .int 5, .int 5, .int 0, .int 25, .long 33554431, .long 1082401, .long 17318416]), .inl (3, .inl (upd (fun _ => 0) 1 1)), .inr (2, [.ref 1, .ref 4, .ref 5, .int 0]), .inl (864, .inr (.inl (fun _ => 0))), .inl (3, .inl (fun _ => 0)), .inr (8, [.ref 1, .ref 3, .ref 7, .int 0, .int 0]), .inl (0, .inl (fun _ => 0)), .inr (6, [.ref 9, .int 0, .long 0, .long 0]), .inl (30, .inr (.inl (fun _ => 0))), .inr (7, [.ref 1, .ref 3, .ref 6, .ref 8, .ref 11, .ref 12]), .inl (3, .inr (.inl (fun _ => 0))), .inl (3, .inr (.inl (fun _ => 0))), .inr (4, [.ref 1, .ref 6, .ref 8, .ref 10, .ref 14, .ref 17, .ref 18, .ref 19, .int 0, .int 0]), .inr (10, [.ref 15, .ref 16, .int 0]), .inl (36, .inl (fun _ => 0)), .inl (36, .inl (fun _ => 0)), .inl (0, .inr (.inl (fun _ => 0))), .inl (0, .inr (.inl (fun _ => 0))), .inl (0, .inr (.inl (fun _ => 0))), .inr (5, [.ref 6, .ref 13, .ref 21, .int 0, .int 0, .int 0, .int 0]), .inl (1296, .inl (fun _ => 0)), .inr (0, [.ref 1, .ref 3, .ref 6, .ref 23, .ref 26, .ref 27, .ref 28, .null, .int 0, .null, .int 0, .int 0]), .inr (10, [.ref 24, .ref 25, .int 0]), .inl (36, .inl (fun _ => 0)), .inl (36, .inl (fun _ => 0)), .inl (0, .inl (fun _ => 0)), .inl (400, .inl (fun _ => 0)), .inl (400, .inl (fun _ => 0)), .inl (400, .inr (.inl (fun _ => 0)))]
noncomputable abbrev rw_h32 : ez_H := [.inr (11, [.ref 1, .ref 3, .ref 6, .ref 8, .ref 10, .ref 13, .ref 20, .null, .null, .null]), .inr (9, [.ref 2, .int 0, .int 0, .int 5, .int 5, .int 0, .int 25, .long 33554431, .long 1082401, .long 17318416]), .inl (3, .inl (upd (fun _ => 0) 1 1)), .inr (2, [.ref 1, .ref 4, .ref 5, .int 0]), .inl (864, .inr (.inl (fun _ => 0))), .inl (3, .inl (fun _ => 0)), .inr (8, [.ref 1, .ref 3, .ref 7, .int 0, .int 0]), .inl (0, .inl (fun _ => 0)), .inr (6, [.ref 9, .int 0, .long 0, .long 0]), .inl (30, .inr (.inl (fun _ => 0))), .inr (7, [.ref 1, .ref 3, .ref 6, .ref 8, .ref 11, .ref 12]), .inl (3, .inr (.inl (fun _ => 0))), .inl (3, .inr (.inl (fun _ => 0))), .inr (4, [.ref 1, .ref 6, .ref 8, .ref 10, .ref 14, .ref 17, .ref 18, .ref 19, .int 0, .int 0]), .inr (10, [.ref 15, .ref 16, .int 0]), .inl (36, .inl (fun _ => 0)), .inl (36, .inl (fun _ => 0)), .inl (0, .inr (.inl (fun _ => 0))), .inl (0, .inr (.inl (fun _ => 0))), .inl (0, .inr (.inl (fun _ => 0))), .inr (5, [.ref 6, .ref 13, .ref 21, .int 0, .int 0, .int 0, .int 0]), .inl (1296, .inl (fun _ => 0)), .inr (0, [.ref 1, .ref 3, .ref 6, .ref 23, .ref 26, .ref 27, .ref 28, .ref 29, .int 0, .ref 30, .int 0, .int (-1)]), .inr (10, [.ref 24, .ref 25, .int 0]), .inl (36, .inl (fun _ => 0)), .inl (36, .inl (fun _ => 0)), .inl (0, .inl (fun _ => 0)), .inl (400, .inl (fun _ => 0)), .inl (400, .inl (fun _ => 0)), .inl (400, .inr (.inl (fun _ => 0))), .inl (36, .inl (fun _ => 0))]
noncomputable abbrev rw_h33 : ez_H := [.inr (11, [.ref 1, .ref 3, .ref 6, .ref 8, .ref 10, .ref 13, .ref 20, .ref 22, .null, .null]), .inr (9, [.ref 2, .int 0, .int 0, .int 5, .int 5, .int 0, .int 25, .long 33554431, .long 1082401, .long 17318416]), .inl (3, .inl (upd (fun _ => 0) 1 1)), .inr (2, [.ref 1, .ref 4, .ref 5, .int 0]), .inl (864, .inr (.inl (fun _ => 0))), .inl (3, .inl (fun _ => 0)), .inr (8, [.ref 1, .ref 3, .ref 7, .int 0, .int 0]), .inl (0, .inl (fun _ => 0)), .inr (6, [.ref 9, .int 0, .long 0, .long 0]), .inl (30, .inr (.inl (fun _ => 0))), .inr (7, [.ref 1, .ref 3, .ref 6, .ref 8, .ref 11, .ref 12]), .inl (3, .inr (.inl (fun _ => 0))), .inl (3, .inr (.inl (fun _ => 0))), .inr (4, [.ref 1, .ref 6, .ref 8, .ref 10, .ref 14, .ref 17, .ref 18, .ref 19, .int 0, .int 0]), .inr (10, [.ref 15, .ref 16, .int 0]), .inl (36, .inl (fun _ => 0)), .inl (36, .inl (fun _ => 0)), .inl (0, .inr (.inl (fun _ => 0))), .inl (0, .inr (.inl (fun _ => 0))), .inl (0, .inr (.inl (fun _ => 0))), .inr (5, [.ref 6, .ref 13, .ref 21, .int 0, .int 0, .int 0, .int 0]), .inl (1296, .inl (fun _ => 0)), .inr (0, [.ref 1, .ref 3, .ref 6, .ref 23, .ref 26, .ref 27, .ref 28, .ref 29, .int 0, .ref 30, .int 0, .int (-1)]), .inr (10, [.ref 24, .ref 25, .int 0]), .inl (36, .inl (fun _ => 0)), .inl (36, .inl (fun _ => 0)), .inl (0, .inl (fun _ => 0)), .inl (400, .inl (fun _ => 0)), .inl (400, .inl (fun _ => 0)), .inl (400, .inr (.inl (fun _ => 0))), .inl (36, .inl (fun _ => 0)), .inr (3, [.null, .null, .null, .null, .int 0, .int 0])]
noncomputable abbrev rw_h34 : ez_H := [.inr (11, [.ref 1, .ref 3, .ref 6, .ref 8, .ref 10, .ref 13, .ref 20, .ref 22, .null, .null]), .inr (9, [.ref 2, .int 0, .int 0, .int 5, .int 5, .int 0, .int 25, .long 33554431, .long 1082401, .long 17318416]), .inl (3, .inl (upd (fun _ => 0) 1 1)), .inr (2, [.ref 1, .ref 4, .ref 5, .int 0]), .inl (864, .inr (.inl (fun _ => 0))), .inl (3, .inl (fun _ => 0)), .inr (8, [.ref 1, .ref 3, .ref 7, .int 0, .int 0]), .inl (0, .inl (fun _ => 0)), .inr (6, [.ref 9, .int 0, .long 0, .long 0]), .inl (30, .inr (.inl (fun _ => 0))), .inr (7, [.ref 1, .ref 3, .ref 6, .ref 8, .ref 11, .ref 12]), .inl (3, .inr (.inl (fun _ => 0))), .inl (3, .inr (.inl (fun _ => 0))), .inr (4, [.ref 1, .ref 6, .ref 8, .ref 10, .ref 14, .ref 17, .ref 18, .ref 19, .int 0, .int 0]), .inr (10, [.ref 15, .ref 16, .int 0]), .inl (36, .inl (fun _ => 0)), .inl (36, .inl (fun _ => 0)), .inl (0, .inr (.inl (fun _ => 0))), .inl (0, .inr (.inl (fun _ => 0))), .inl (0, .inr (.inl (fun _ => 0))), .inr (5, [.ref 6, .ref 13, .ref 21, .int 0, .int 0, .int 0, .int 0]), .inl (1296, .inl (fun _ => 0)), .inr (0, [.ref 1, .ref 3, .ref 6, .ref 23, .ref 26, .ref 27, .ref 28, .ref 29, .int 0, .ref 30, .int 0, .int (-1)]), .inr (10, [.ref 24, .ref 25, .int 0]), .inl (36, .inl (fun _ => 0)), .inl (36, .inl (fun _ => 0)), .inl (0, .inl (fun _ => 0)), .inl (400, .inl (fun _ => 0)), .inl (400, .inl (fun _ => 0)), .inl (400, .inr (.inl (fun _ => 0))), .inl (36, .inl (fun _ => 0)), .inr (3, [.ref 3, .ref 6, .ref 8, .ref 13, .int 0, .int 0])]
noncomputable abbrev rw_h35 : ez_H := [.inr (11, [.ref 1, .ref 3, .ref 6, .ref 8, .ref 10, .ref 13, .ref 20, .ref 22, .ref 31, .null]), .inr (9, [.ref 2, .int 0, .int 0, .int 5, .int 5, .int 0, .int 25, .long 33554431, .long 1082401, .long 17318416]), .inl (3, .inl (upd (fun _ => 0) 1 1)), .inr (2, [.ref 1, .ref 4, .ref 5, .int 0]), .inl (864, .inr (.inl (fun _ => 0))), .inl (3, .inl (fun _ => 0)), .inr (8, [.ref 1, .ref 3, .ref 7, .int 0, .int 0]), .inl (0, .inl (fun _ => 0)), .inr (6, [.ref 9, .int 0, .long 0, .long 0]), .inl (30, .inr (.inl (fun _ => 0))), .inr (7, [.ref 1, .ref 3, .ref 6, .ref 8, .ref 11, .ref 12]), .inl (3, .inr (.inl (fun _ => 0))), .inl (3, .inr (.inl (fun _ => 0))), .inr (4, [.ref 1, .ref 6, .ref 8, .ref 10, .ref 14, .ref 17, .ref 18, .ref 19, .int 0, .int 0]), .inr (10, [.ref 15, .ref 16, .int 0]), .inl (36, .inl (fun _ => 0)), .inl (36, .inl (fun _ => 0)), .inl (0, .inr (.inl (fun _ => 0))), .inl (0, .inr (.inl (fun _ => 0))), .inl (0, .inr (.inl (fun _ => 0))), .inr (5, [.ref 6, .ref 13, .ref 21, .int 0, .int 0, .int 0, .int 0]), .inl (1296, .inl (fun _ => 0)), .inr (0, [.ref 1, .ref 3, .ref 6, .ref 23, .ref 26, .ref 27, .ref 28, .ref 29, .int 0, .ref 30, .int 0, .int (-1)]), .inr (10, [.ref 24, .ref 25, .int 0]), .inl (36, .inl (fun _ => 0)), .inl (36, .inl (fun _ => 0)), .inl (0, .inl (fun _ => 0)), .inl (400, .inl (fun _ => 0)), .inl (400, .inl (fun _ => 0)), .inl (400, .inr (.inl (fun _ => 0))), .inl (36, .inl (fun _ => 0)), .inr (3, [.ref 3, .ref 6, .ref 8, .ref 13, .int 0, .int 0]), .inr (1, [.null, .null, .null, .null])]
noncomputable abbrev rw_h36 : ez_H := [.inr (11, [.ref 1, .ref 3, .ref 6, .ref 8, .ref 10, .ref 13, .ref 20, .ref 22, .ref 31, .null]), .inr (9, [.ref 2, .int 0, .int 0, .int 5, .int 5, .int 0, .int 25, .long 33554431, .long 1082401, .long 17318416]), .inl (3, .inl (upd (fun _ => 0) 1 1)), .inr (2, [.ref 1, .ref 4, .ref 5, .int 0]), .inl (864, .inr (.inl (fun _ => 0))), .inl (3, .inl (fun _ => 0)), .inr (8, [.ref 1, .ref 3, .ref 7, .int 0, .int 0]), .inl (0, .inl (fun _ => 0)), .inr (6, [.ref 9, .int 0, .long 0, .long 0]), .inl (30, .inr (.inl (fun _ => 0))), .inr (7, [.ref 1, .ref 3, .ref 6, .ref 8, .ref 11, .ref 12]), .inl (3, .inr (.inl (fun _ => 0))), .inl (3, .inr (.inl (fun _ => 0))), .inr (4, [.ref 1, .ref 6, .ref 8, .ref 10, .ref 14, .ref 17, .ref 18, .ref 19, .int 0, .int 0]), .inr (10, [.ref 15, .ref 16, .int 0]), .inl (36, .inl (fun _ => 0)), .inl (36, .inl (fun _ => 0)), .inl (0, .inr (.inl (fun _ => 0))), .inl (0, .inr (.inl (fun _ => 0))), .inl (0, .inr (.inl (fun _ => 0))), .inr (5, [.ref 6, .ref 13, .ref 21, .int 0, .int 0, .int 0, .int 0]), .inl (1296, .inl (fun _ => 0)), .inr (0, [.ref 1, .ref 3, .ref 6, .ref 23, .ref 26, .ref 27, .ref 28, .ref 29, .int 0, .ref 30, .int 0, .int (-1)]), .inr (10, [.ref 24, .ref 25, .int 0]), .inl (36, .inl (fun _ => 0)), .inl (36, .inl (fun _ => 0)), .inl (0, .inl (fun _ => 0)), .inl (400, .inl (fun _ => 0)), .inl (400, .inl (fun _ => 0)), .inl (400, .inr (.inl (fun _ => 0))), .inl (36, .inl (fun _ => 0)), .inr (3, [.ref 3, .ref 6, .ref 8, .ref 13, .int 0, .int 0]), .inr (1, [.ref 1, .ref 6, .ref 33, .ref 34]), .inl (12, .inl (fun _ => 0)), .inl (64, .inr (.inl (fun _ => 0)))]
noncomputable abbrev rw_h37 : ez_H := [.inr (11, [.ref 1, .ref 3, .ref 6, .ref 8, .ref 10, .ref 13, .ref 20, .ref 22, .ref 31, .null]), .inr (9, [.ref 2, .int 0, .int 0, .int 5, .int 5, .int 0, .int 25, .long 33554431, .long 1082401, .long 17318416]), .inl (3, .inl (upd (fun _ => 0) 1 1)), .inr (2, [.ref 1, .ref 4, .ref 5, .int 0]), .inl (864, .inr (.inl (fun _ => 0))), .inl (3, .inl (fun _ => 0)), .inr (8, [.ref 1, .ref 3, .ref 7, .int 0, .int 0]), .inl (0, .inl (fun _ => 0)), .inr (6, [.ref 9, .int 0, .long 0, .long 0]), .inl (30, .inr (.inl (fun _ => 0))), .inr (7, [.ref 1, .ref 3, .ref 6, .ref 8, .ref 11, .ref 12]), .inl (3, .inr (.inl (fun _ => 0))), .inl (3, .inr (.inl (fun _ => 0))), .inr (4, [.ref 1, .ref 6, .ref 8, .ref 10, .ref 14, .ref 17, .ref 18, .ref 19, .int 0, .int 0]), .inr (10, [.ref 15, .ref 16, .int 0]), .inl (36, .inl (fun _ => 0)), .inl (36, .inl (fun _ => 0)), .inl (0, .inr (.inl (fun _ => 0))), .inl (0, .inr (.inl (fun _ => 0))), .inl (0, .inr (.inl (fun _ => 0))), .inr (5, [.ref 6, .ref 13, .ref 21, .int 0, .int 0, .int 0, .int 0]), .inl (1296, .inl (fun _ => 0)), .inr (0, [.ref 1, .ref 3, .ref 6, .ref 23, .ref 26, .ref 27, .ref 28, .ref 29, .int 0, .ref 30, .int 0, .int (-1)]), .inr (10, [.ref 24, .ref 25, .int 0]), .inl (36, .inl (fun _ => 0)), .inl (36, .inl (fun _ => 0)), .inl (0, .inl (fun _ => 0)), .inl (400, .inl (fun _ => 0)), .inl (400, .inl (fun _ => 0)), .inl (400, .inr (.inl (fun _ => 0))), .inl (36, .inl (fun _ => 0)), .inr (3, [.ref 3, .ref 6, .ref 8, .ref 13, .int 0, .int 0]), .inr (1, [.ref 1, .ref 6, .ref 33, .ref 34]), .inl (12, .inl (upd (fun _ => 0) 0 (-1))), .inl (64, .inr (.inl (fun _ => 0)))]
noncomputable abbrev rw_h38 : ez_H := [.inr (11, [.ref 1, .ref 3, .ref 6, .ref 8, .ref 10, .ref 13, .ref 20, .ref 22, .ref 31, .null]), .inr (9, [.ref 2, .int 0, .int 0, .int 5, .int 5, .int 0, .int 25, .long 33554431, .long 1082401, .long 17318416]), .inl (3, .inl (upd (fun _ => 0) 1 1)), .inr (2, [.ref 1, .ref 4, .ref 5, .int 0]), .inl (864, .inr (.inl (fun _ => 0))), .inl (3, .inl (fun _ => 0)), .inr (8, [.ref 1, .ref 3, .ref 7, .int 0, .int 0]), .inl (0, .inl (fun _ => 0)), .inr (6, [.ref 9, .int 0, .long 0, .long 0]), .inl (30, .inr (.inl (fun _ => 0))), .inr (7, [.ref 1, .ref 3, .ref 6, .ref 8, .ref 11, .ref 12]), .inl (3, .inr (.inl (fun _ => 0))), .inl (3, .inr (.inl (fun _ => 0))), .inr (4, [.ref 1, .ref 6, .ref 8, .ref 10, .ref 14, .ref 17, .ref 18, .ref 19, .int 0, .int 0]), .inr (10, [.ref 15, .ref 16, .int 0]), .inl (36, .inl (fun _ => 0)), .inl (36, .inl (fun _ => 0)), .inl (0, .inr (.inl (fun _ => 0))), .inl (0, .inr (.inl (fun _ => 0))), .inl (0, .inr (.inl (fun _ => 0))), .inr (5, [.ref 6, .ref 13, .ref 21, .int 0, .int 0, .int 0, .int 0]), .inl (1296, .inl (fun _ => 0)), .inr (0, [.ref 1, .ref 3, .ref 6, .ref 23, .ref 26, .ref 27, .ref 28, .ref 29, .int 0, .ref 30, .int 0, .int (-1)]), .inr (10, [.ref 24, .ref 25, .int 0]), .inl (36, .inl (fun _ => 0)), .inl (36, .inl (fun _ => 0)), .inl (0, .inl (fun _ => 0)), .inl (400, .inl (fun _ => 0)), .inl (400, .inl (fun _ => 0)), .inl (400, .inr (.inl (fun _ => 0))), .inl (36, .inl (fun _ => 0)), .inr (3, [.ref 3, .ref 6, .ref 8, .ref 13, .int 0, .int 0]), .inr (1, [.ref 1, .ref 6, .ref 33, .ref 34]), .inl (12, .inl (upd (upd (fun _ => 0) 0 (-1)) 1 (-1))), .inl (64, .inr (.inl (fun _ => 0)))]
noncomputable abbrev rw_h39 : ez_H := [.inr (11, [.ref 1, .ref 3, .ref 6, .ref 8, .ref 10, .ref 13, .ref 20, .ref 22, .ref 31, .null]), .inr (9, [.ref 2, .int 0, .int 0, .int 5, .int 5, .int 0, .int 25, .long 33554431, .long 1082401, .long 17318416]), .inl (3, .inl (upd (fun _ => 0) 1 1)), .inr (2, [.ref 1, .ref 4, .ref 5, .int 0]), .inl (864, .inr (.inl (fun _ => 0))), .inl (3, .inl (fun _ => 0)), .inr (8, [.ref 1, .ref 3, .ref 7, .int 0, .int 0]), .inl (0, .inl (fun _ => 0)), .inr (6, [.ref 9, .int 0, .long 0, .long 0]), .inl (30, .inr (.inl (fun _ => 0))), .inr (7, [.ref 1, .ref 3, .ref 6, .ref 8, .ref 11, .ref 12]), .inl (3, .inr (.inl (fun _ => 0))), .inl (3, .inr (.inl (fun _ => 0))), .inr (4, [.ref 1, .ref 6, .ref 8, .ref 10, .ref 14, .ref 17, .ref 18, .ref 19, .int 0, .int 0]), .inr (10, [.ref 15, .ref 16, .int 0]), .inl (36, .inl (fun _ => 0)), .inl (36, .inl (fun _ => 0)), .inl (0, .inr (.inl (fun _ => 0))), .inl (0, .inr (.inl (fun _ => 0))), .inl (0, .inr (.inl (fun _ => 0))), .inr (5, [.ref 6, .ref 13, .ref 21, .int 0, .int 0, .int 0, .int 0]), .inl (1296, .inl (fun _ => 0)), .inr (0, [.ref 1, .ref 3, .ref 6, .ref 23, .ref 26, .ref 27, .ref 28, .ref 29, .int 0, .ref 30, .int 0, .int (-1)]), .inr (10, [.ref 24, .ref 25, .int 0]), .inl (36, .inl (fun _ => 0)), .inl (36, .inl (fun _ => 0)), .inl (0, .inl (fun _ => 0)), .inl (400, .inl (fun _ => 0)), .inl (400, .inl (fun _ => 0)), .inl (400, .inr (.inl (fun _ => 0))), .inl (36, .inl (fun _ => 0)), .inr (3, [.ref 3, .ref 6, .ref 8, .ref 13, .int 0, .int 0]), .inr (1, [.ref 1, .ref 6, .ref 33, .ref 34]), .inl (12, .inl (upd (upd (upd (fun _ => 0) 0 (-1)) 1 (-1)) 2 (-1))), .inl (64, .inr (.inl (fun _ => 0)))]
noncomputable abbrev rw_h40 : ez_H := [.inr (11, [.ref 1, .ref 3, .ref 6, .ref 8, .ref 10, .ref 13, .ref 20, .ref 22, .ref 31, .null]), .inr (9, [.ref 2, .int 0, .int 0, .int 5, .int 5, .int 0, .int 25, .long 33554431, .long 1082401, .long 17318416]), .inl (3, .inl (upd (fun _ => 0) 1 1)), .inr (2, [.ref 1, .ref 4, .ref 5, .int 0]), .inl (864, .inr (.inl (fun _ => 0))), .inl (3, .inl (fun _ => 0)), .inr (8, [.ref 1, .ref 3, .ref 7, .int 0, .int 0]), .inl (0, .inl (fun _ => 0)), .inr (6, [.ref 9, .int 0, .long 0, .long 0]), .inl (30, .inr (.inl (fun _ => 0))), .inr (7, [.ref 1, .ref 3, .ref 6, .ref 8, .ref 11, .ref 12]), .inl (3, .inr (.inl (fun _ => 0))), .inl (3, .inr (.inl (fun _ => 0))), .inr (4, [.ref 1, .ref 6, .ref 8, .ref 10, .ref 14, .ref 17, .ref 18, .ref 19, .int 0, .int 0]), .inr (10, [.ref 15, .ref 16, .int 0]), .inl (36, .inl (fun _ => 0)), .inl (36, .inl (fun _ => 0)), .inl (0, .inr (.inl (fun _ => 0))), .inl (0, .inr (.inl (fun _ => 0))), .inl (0, .inr (.inl (fun _ => 0))), .inr (5, [.ref 6, .ref 13, .ref 21, .int 0, .int 0, .int 0, .int 0]), .inl (1296, .inl (fun _ => 0)), .inr (0, [.ref 1, .ref 3, .ref 6, .ref 23, .ref 26, .ref 27, .ref 28, .ref 29, .int 0, .ref 30, .int 0, .int (-1)]), .inr (10, [.ref 24, .ref 25, .int 0]), .inl (36, .inl (fun _ => 0)), .inl (36, .inl (fun _ => 0)), .inl (0, .inl (fun _ => 0)), .inl (400, .inl (fun _ => 0)), .inl (400, .inl (fun _ => 0)), .inl (400, .inr (.inl (fun _ => 0))), .inl (36, .inl (fun _ => 0)), .inr (3, [.ref 3, .ref 6, .ref 8, .ref 13, .int 0, .int 0]), .inr (1, [.ref 1, .ref 6, .ref 33, .ref 34]), .inl (12, .inl (upd (upd (upd (upd (fun _ => 0) 0 (-1)) 1 (-1)) 2 (-1)) 3 (-1))), .inl (64, .inr (.inl (fun _ => 0)))]
noncomputable abbrev rw_h41 : ez_H := [.inr (11, [.ref 1, .ref 3, .ref 6, .ref 8, .ref 10, .ref 13, .ref 20, .ref 22, .ref 31, .null]), .inr (9, [.ref 2, .int 0, .int 0, .int 5, .int 5, .int 0, .int 25, .long 33554431, .long 1082401, .long 17318416]), .inl (3, .inl (upd (fun _ => 0) 1 1)), .inr (2, [.ref 1, .ref 4, .ref 5, .int 0]), .inl (864, .inr (.inl (fun _ => 0))), .inl (3, .inl (fun _ => 0)), .inr (8, [.ref 1, .ref 3, .ref 7, .int 0, .int 0]), .inl (0, .inl (fun _ => 0)), .inr (6, [.ref 9, .int 0, .long 0, .long 0]), .inl (30, .inr (.inl (fun _ => 0))), .inr (7, [.ref 1, .ref 3, .ref 6, .ref 8, .ref 11, .ref 12]), .inl (3, .inr (.inl (fun _ => 0))), .inl (3, .inr (.inl (fun _ => 0))), .inr (4, [.ref 1, .ref 6, .ref 8, .ref 10, .ref 14, .ref 17, .ref 18, .ref 19, .int 0, .int 0]), .inr (10, [.ref 15, .ref 16, .int 0]), .inl (36, .inl (fun _ => 0)), .inl (36, .inl (fun _ => 0)), .inl (0, .inr (.inl (fun _ => 0))), .inl (0, .inr (.inl (fun _ => 0))), .inl (0, .inr (.inl (fun _ => 0))), .inr (5, [.ref 6, .ref 13, .ref 21, .int 0, .int 0, .int 0, .int 0]), .inl (1296, .inl (fun _ => 0)), .inr (0, [.ref 1, .ref 3, .ref 6, .ref 23, .ref 26, .ref 27, .ref 28, .ref 29, .int 0, .ref 30, .int 0, .int (-1)]), .inr (10, [.ref 24, .ref 25, .int 0]), .inl (36, .inl (fun _ => 0)), .inl (36, .inl (fun _ => 0)), .inl (0, .inl (fun _ => 0)), .inl (400, .inl (fun _ => 0)), .inl (400, .inl (fun _ => 0)), .inl (400, .inr (.inl (fun _ => 0))), .inl (36, .inl (fun _ => 0)), .inr (3, [.ref 3, .ref 6, .ref 8, .ref 13, .int 0, .int 0]), .inr (1, [.ref 1, .ref 6, .ref 33, .ref 34]), .inl (12, .inl (upd (upd (upd (upd (upd (fun _ => 0) 0 (-1)) 1 (-1)) 2 (-1)) 3 (-1)) 4 (-1))), .inl (64, .inr (.inl (fun _ => 0)))]
noncomputable abbrev rw_h42 : ez_H := [.inr (11, [.ref 1, .ref 3, .ref 6, .ref 8, .ref 10, .ref 13, .ref 20, .ref 22, .ref 31, .null]), .inr (9, [.ref 2, .int 0, .int 0, .int 5, .int 5, .int 0, .int 25, .long 33554431, .long 1082401, .long 17318416]), .inl (3, .inl (upd (fun _ => 0) 1 1)), .inr (2, [.ref 1, .ref 4, .ref 5, .int 0]), .inl (864, .inr (.inl (fun _ => 0))), .inl (3, .inl (fun _ => 0)), .inr (8, [.ref 1, .ref 3, .ref 7, .int 0, .int 0]), .inl (0, .inl (fun _ => 0)), .inr (6, [.ref 9, .int 0, .long 0, .long 0]), .inl (30, .inr (.inl (fun _ => 0))), .inr (7, [.ref 1, .ref 3, .ref 6, .ref 8, .ref 11, .ref 12]), .inl (3, .inr (.inl (fun _ => 0))), .inl (3, .inr (.inl (fun _ => 0))), .inr (4, [.ref 1, .ref 6, .ref 8, .ref 10, .ref 14, .ref 17, .ref 18, .ref 19, .int 0, .int 0]), .inr (10, [.ref 15, .ref 16, .int 0]), .inl (36, .inl (fun _ => 0)), .inl (36, .inl (fun _ => 0)), .inl (0, .inr (.inl (fun _ => 0))), .inl (0, .inr (.inl (fun _ => 0))), .inl (0, .inr (.inl (fun _ => 0))), .inr (5, [.ref 6, .ref 13, .ref 21, .int 0, .int 0, .int 0, .int 0]), .inl (1296, .inl (fun _ => 0)), .inr (0, [.ref 1, .ref 3, .ref 6, .ref 23, .ref 26, .ref 27, .ref 28, .ref 29, .int 0, .ref 30, .int 0, .int (-1)]), .inr (10, [.ref 24, .ref 25, .int 0]), .inl (36, .inl (fun _ => 0)), .inl (36, .inl (fun _ => 0)), .inl (0, .inl (fun _ => 0)), .inl (400, .inl (fun _ => 0)), .inl (400, .inl (fun _ => 0)), .inl (400, .inr (.inl (fun _ => 0))), .inl (36, .inl (fun _ => 0)), .inr (3, [.ref 3, .ref 6, .ref 8, .ref 13, .int 0, .int 0]), .inr (1, [.ref 1, .ref 6, .ref 33, .ref 34]), .inl (12, .inl (upd (upd (upd (upd (upd (upd (fun _ => 0) 0 (-1)) 1 (-1)) 2 (-1)) 3 (-1)) 4 (-1)) 5 (-1))), .inl (64, .inr (.inl (fun _ => 0)))]
noncomputable abbrev rw_h43 : ez_H := [.inr (11, [.ref 1, .ref 3, .ref 6, .ref 8, .ref 10, .ref 13, .ref 20, .ref 22, .ref 31, .null]), .inr (9, [.ref 2, .int 0, .int 0, .int 5, .int 5, .int 0, .int 25, .long 33554431, .long 1082401, .long 17318416]), .inl (3, .inl (upd (fun _ => 0) 1 1)), .inr (2, [.ref 1, .ref 4, .ref 5, .int 0]), .inl (864, .inr (.inl (fun _ => 0))), .inl (3, .inl (fun _ => 0)), .inr (8, [.ref 1, .ref 3, .ref 7, .int 0, .int 0]), .inl (0, .inl (fun _ => 0)), .inr (6, [.ref 9, .int 0, .long 0, .long 0]), .inl (30, .inr (.inl (fun _ => 0))), .inr (7, [.ref 1, .ref 3, .ref 6, .ref 8, .ref 11, .ref 12]), .inl (3, .inr (.inl (fun _ => 0))), .inl (3, .inr (.inl (fun _ => 0))), .inr (4, [.ref 1, .ref 6, .ref 8, .ref 10, .ref 14, .ref 17, .ref 18, .ref 19, .int 0, .int 0]), .inr (10, [.ref 15, .ref 16, .int 0]), .inl (36, .inl (fun _ => 0)), .inl (36, .inl (fun _ => 0)), .inl (0, .inr (.inl (fun _ => 0))), .inl (0, .inr (.inl (fun _ => 0))), .inl (0, .inr (.inl (fun _ => 0))), .inr (5, [.ref 6, .ref 13, .ref 21, .int 0, .int 0, .int 0, .int 0]), .inl (1296, .inl (fun _ => 0)), .inr (0, [.ref 1, .ref 3, .ref 6, .ref 23, .ref 26, .ref 27, .ref 28, .ref 29, .int 0, .ref 30, .int 0, .int (-1)]), .inr (10, [.ref 24, .ref 25, .int 0]), .inl (36, .inl (fun _ => 0)), .inl (36, .inl (fun _ => 0)), .inl (0, .inl (fun _ => 0)), .inl (400, .inl (fun _ => 0)), .inl (400, .inl (fun _ => 0)), .inl (400, .inr (.inl (fun _ => 0))), .inl (36, .inl (fun _ => 0)), .inr (3, [.ref 3, .ref 6, .ref 8, .ref 13, .int 0, .int 0]), .inr (1, [.ref 1, .ref 6, .ref 33, .ref 34]), .inl (12, .inl (upd (upd (upd (upd (upd (upd (upd (fun _ => 0) 0 (-1)) 1 (-1)) 2 (-1)) 3 (-1)) 4 (-1)) 5 (-1)) 6 (-1))), .inl (64, .inr (.inl (fun _ => 0)))]
noncomputable abbrev rw_h44 : ez_H := [.inr (11, [.ref 1, .ref 3, .ref 6, .ref 8, .ref 10, .ref 13, .ref 20, .ref 22, .ref 31, .null]), .inr (9, [.ref 2, .int 0, .int 0, .int 5, .int 5, .int 0, .int 25, .long 33554431, .long 1082401, .long 17318416]), .inl (3, .inl (upd (fun _ => 0) 1 1)), .inr (2, [.ref 1, .ref 4, .ref 5, .int 0]), .inl (864, .inr (.inl (fun _ => 0))), .inl (3, .inl (fun _ => 0)), .inr (8, [.ref 1, .ref 3, .ref 7, .int 0, .int 0]), .inl (0, .inl (fun _ => 0)), .inr (6, [.ref 9, .int 0, .long 0, .long 0]), .inl (30, .inr (.inl (fun _ => 0))), .inr (7, [.ref 1, .ref 3, .ref 6, .ref 8, .ref 11, .ref 12]), .inl (3, .inr (.inl (fun _ => 0))), .inl (3, .inr (.inl (fun _ => 0))), .inr (4, [.ref 1, .ref 6, .ref 8, .ref 10, .ref 14, .ref 17, .ref 18, .ref 19, .int 0, .int 0]), .inr (10, [.ref 15, .ref 16, .int 0]), .inl (36, .inl (fun _ => 0)), .inl (36, .inl (fun _ => 0)), .inl (0, .inr (.inl (fun _ => 0))), .inl (0, .inr (.inl (fun _ => 0))), .inl (0, .inr (.inl (fun _ => 0))), .inr (5, [.ref 6, .ref 13, .ref 21, .int 0, .int 0, .int 0, .int 0]), .inl (1296, .inl (fun _ => 0)), .inr (0, [.ref 1, .ref 3, .ref 6, .ref 23, .ref 26, .ref 27, .ref 28, .ref 29, .int 0, .ref 30, .int 0, .int (-1)]), .inr (10, [.ref 24, .ref 25, .int 0]), .inl (36, .inl (fun _ => 0)), .inl (36, .inl (fun _ => 0)), .inl (0, .inl (fun _ => 0)), .inl (400, .inl (fun _ => 0)), .inl (400, .inl (fun _ => 0)), .inl (400, .inr (.inl (fun _ => 0))), .inl (36, .inl (fun _ => 0)), .inr (3, [.ref 3, .ref 6, .ref 8, .ref 13, .int 0, .int 0]), .inr (1, [.ref 1, .ref 6, .ref 33, .ref 34]), .inl (12, .inl (upd (upd (upd (upd (upd (upd (upd (upd (fun _ => 0) 0 (-1)) 1 (-1)) 2 (-1)) 3 (-1)) 4 (-1)) 5 (-1)) 6 (-1)) 7 (-1))), .inl (64, .inr (.inl (fun _ => 0)))]
noncomputable abbrev rw_h45 : ez_H := [.inr (11, [.ref 1, .ref 3, .ref 6, .ref 8, .ref 10, .ref 13, .ref 20, .ref 22, .ref 31, .null]), .inr (9, [.ref 2, .int 0, .int 0, .int 5, .int 5, .int 0, .int 25, .long 33554431, .long 1082401, .long 17318416]), .inl (3, .inl (upd (fun _ => 0) 1 1)), .inr (2, [.ref 1, .ref 4, .ref 5, .int 0]), .inl (864, .inr (.inl (fun _ => 0))), .inl (3, .inl (fun _ => 0)), .inr (8, [.ref 1, .ref 3, .ref 7, .int 0, .int 0]), .inl (0, .inl (fun _ => 0)), .inr (6, [.ref 9, .int 0, .long 0, .long 0]), .inl (30, .inr (.inl (fun _ => 0))), .inr (7, [.ref 1, .ref 3, .ref 6, .ref 8, .ref 11, .ref 12]), .inl (3, .inr (.inl (fun _ => 0))), .inl (3, .inr (.inl (fun _ => 0))), .inr (4, [.ref 1, .ref 6, .ref 8, .ref 10, .ref 14, .ref 17, .ref 18, .ref 19, .int 0, .int 0]), .inr (10, [.ref 15, .ref 16, .int 0]), .inl (36, .inl (fun _ => 0)), .inl (36, .inl (fun _ => 0)), .inl (0, .inr (.inl (fun _ => 0))), .inl (0, .inr (.inl (fun _ => 0))), .inl (0, .inr (.inl (fun _ => 0))), .inr (5, [.ref 6, .ref 13, .ref 21, .int 0, .int 0, .int 0, .int 0]), .inl (1296, .inl (fun _ => 0)), .inr (0, [.ref 1, .ref 3, .ref 6, .ref 23, .ref 26, .ref 27, .ref 28, .ref 29, .int 0, .ref 30, .int 0, .int (-1)]), .inr (10, [.ref 24, .ref 25, .int 0]), .inl (36, .inl (fun _ => 0)), .inl (36, .inl (fun _ => 0)), .inl (0, .inl (fun _ => 0)), .inl (400, .inl (fun _ => 0)), .inl (400, .inl (fun _ => 0)), .inl (400, .inr (.inl (fun _ => 0))), .inl (36, .inl (fun _ => 0)), .inr (3, [.ref 3, .ref 6, .ref 8, .ref 13, .int 0, .int 0]), .inr (1, [.ref 1, .ref 6, .ref 33, .ref 34]), .inl (12, .inl (upd (upd (upd (upd (upd (upd (upd (upd (upd (fun _ => 0) 0 (-1)) 1 (-1)) 2 (-1)) 3 (-1)) 4 (-1)) 5 (-1)) 6 (-1)) 7 (-1)) 8 (-1))), .inl (64, .inr (.inl (fun _ => 0)))]
noncomputable abbrev rw_h46 : ez_H := [.inr (11, [.ref 1, .ref 3, .ref 6, .ref 8, .ref 10, .ref 13, .ref 20, .ref 22, .ref 31, .null]), .inr (9, [.ref 2, .int 0, .int 0, .int 5, .int 5, .int 0, .int 25, .long 33554431, .long 1082401, .long 17318416]), .inl (3, .inl (upd (fun _ => 0) 1 1)), .inr (2, [.ref 1, .ref 4, .ref 5, .int 0]), .inl (864, .inr (.inl (fun _ => 0))), .inl (3, .inl (fun _ => 0)), .inr (8, [.ref 1, .ref 3, .ref 7, .int 0, .int 0]), .inl (0, .inl (fun _ => 0)), .inr (6, [.ref 9, .int 0, .long 0, .long 0]), .inl (30, .inr (.inl (fun _ => 0))), .inr (7, [.ref 1, .ref 3, .ref 6, .ref 8, .ref 11, .ref 12]), .inl (3, .inr (.inl (fun _ => 0))), .inl (3, .inr (.inl (fun _ => 0))), .inr (4, [.ref 1, .ref 6, .ref 8, .ref 10, .ref 14, .ref 17, .ref 18, .ref 19, .int 0, .int 0]), .inr (10, [.ref 15, .ref 16, .int 0]), .inl (36, .inl (fun _ => 0)), .inl (36, .inl (fun _ => 0)), .inl (0, .inr (.inl (fun _ => 0))), .inl (0, .inr (.inl (fun _ => 0))), .inl (0, .inr (.inl (fun _ => 0))), .inr (5, [.ref 6, .ref 13, .ref 21, .int 0, .int 0, .int 0, .int 0]), .inl (1296, .inl (fun _ => 0)), .inr (0, [.ref 1, .ref 3, .ref 6, .ref 23, .ref 26, .ref 27, .ref 28, .ref 29, .int 0, .ref 30, .int 0, .int (-1)]), .inr (10, [.ref 24, .ref 25, .int 0]), .inl (36, .inl (fun _ => 0)), .inl (36, .inl (fun _ => 0)), .inl (0, .inl (fun _ => 0)), .inl (400, .inl (fun _ => 0)), .inl (400, .inl (fun _ => 0)), .inl (400, .inr (.inl (fun _ => 0))), .inl (36, .inl (fun _ => 0)), .inr (3, [.ref 3, .ref 6, .ref 8, .ref 13, .int 0, .int 0]), .inr (1, [.ref 1, .ref 6, .ref 33, .ref 34]), .inl (12, .inl (upd (upd (upd (upd (upd (upd (upd (upd (upd (upd (fun _ => 0) 0 (-1)) 1 (-1)) 2 (-1)) 3 (-1)) 4 (-1)) 5 (-1)) 6 (-1)) 7 (-1)) 8 (-1)) 9 (-1))), .inl (64, .inr (.inl (fun _ => 0)))]
noncomputable abbrev rw_h47 : ez_H := [.inr (11, [.ref 1, .ref 3, .ref 6, .ref 8, .ref 10, .ref 13, .ref 20, .ref 22, .ref 31, .null]), .inr (9, [.ref 2, .int 0, .int 0, .int 5, .int 5, .int 0, .int 25, .long 33554431, .long 1082401, .long 17318416]), .inl (3, .inl (upd (fun _ => 0) 1 1)), .inr (2, [.ref 1, .ref 4, .ref 5, .int 0]), .inl (864, .inr (.inl (fun _ => 0))), .inl (3, .inl (fun _ => 0)), .inr (8, [.ref 1, .ref 3, .ref 7, .int 0, .int 0]), .inl (0, .inl (fun _ => 0)), .inr (6, [.ref 9, .int 0, .long 0, .long 0]), .inl (30, .inr (.inl (fun _ => 0))), .inr (7, [.ref 1, .ref 3, .ref 6, .ref 8, .ref 11, .ref 12]), .inl (3, .inr (.inl (fun _ => 0))), .inl (3, .inr (.inl (fun _ => 0))), .inr (4, [.ref 1, .ref 6, .ref 8, .ref 10, .ref 14, .ref 17, .ref 18, .ref 19, .int 0, .int 0]), .inr (10, [.ref 15, .ref 16, .int 0]), .inl (36, .inl (fun _ => 0)), .inl (36, .inl (fun _ => 0)), .inl (0, .inr (.inl (fun _ => 0))), .inl (0, .inr (.inl (fun _ => 0))), .inl (0, .inr (.inl (fun _ => 0))), .inr (5, [.ref 6, .ref 13, .ref 21, .int 0, .int 0, .int 0, .int 0]), .inl (1296, .inl (fun _ => 0)), .inr (0, [.ref 1, .ref 3, .ref 6, .ref 23, .ref 26, .ref 27, .ref 28, .ref 29, .int 0, .ref 30, .int 0, .int (-1)]), .inr (10, [.ref 24, .ref 25, .int 0]), .inl (36, .inl (fun _ => 0)), .inl (36, .inl (fun _ => 0)), .inl (0, .inl (fun _ => 0)), .inl (400, .inl (fun _ => 0)), .inl (400, .inl (fun _ => 0)), .inl (400, .inr (.inl (fun _ => 0))), .inl (36, .inl (fun _ => 0)), .inr (3, [.ref 3, .ref 6, .ref 8, .ref 13, .int 0, .int 0]), .inr (1, [.ref 1, .ref 6, .ref 33, .ref 34]), .inl (12, .inl (upd (upd (upd (upd (upd (upd (upd (upd (upd (upd (upd (fun _ => 0) 0 (-1)) 1 (-1)) 2 (-1)) 3 (-1)) 4 (-1)) 5 (-1)) 6 (-1)) 7 (-1)) 8 (-1)) 9 (-1)) 10 (-1))), .inl (64, .inr (.inl (fun _ => 0)))]
noncomputable abbrev rw_h48 : ez_H := [.inr (11, [.ref 1, .ref 3, .ref 6, .ref 8, .ref 10, .ref 13, .ref 20, .ref 22, .ref 31, .null]), .inr (9, [.ref 2, .int 0, .int 0, .int 5, .int 5, .int 0, .int 25, .long 33554431, .long 1082401, .long 17318416]), .inl (3, .inl (upd (fun _ => 0) 1 1)), .inr (2, [.ref 1, .ref 4, .ref 5, .int 0]), .inl (864, .inr (.inl (fun _ => 0))), .inl (3, .inl (fun _ => 0)), .inr (8, [.ref 1, .ref 3, .ref 7, .int 0, .int 0]), .inl (0, .inl (fun _ => 0)), .inr (6, [.ref 9, .int 0, .long 0, .long 0]), .inl (30, .inr (.inl (fun _ => 0))), .inr (7, [.ref 1, .ref 3, .ref 6, .ref 8, .ref 11, .ref 12]), .inl (3, .inr (.inl (fun _ => 0))), .inl (3, .inr (.inl (fun _ => 0))), .inr (4, [.ref 1, .ref 6, .ref 8, .ref 10, .ref 14, .ref 17, .ref 18, .ref 19, .int 0, .int 0]), .inr (10, [.ref 15, .ref 16, .int 0]), .inl (36, .inl (fun _ => 0)), .inl (36, .inl (fun _ => 0)), .inl (0, .inr (.inl (fun _ => 0))), .inl (0, .inr (.inl (fun _ => 0))), .inl (0, .inr (.inl (fun _ => 0))), .inr (5, [.ref 6, .ref 13, .ref 21, .int 0, .int 0, .int 0, .int 0]), .inl (1296, .inl (fun _ => 0)), .inr (0, [.ref 1, .ref 3, .ref 6, .ref 23, .ref 26, .ref 27, .ref 28, .ref 29, .int 0, .ref 30, .int 0, .int (-1)]), .inr (10, [.ref 24, .ref 25, .int 0]), .inl (36, .inl (fun _ => 0)), .inl (36, .inl (fun _ => 0)), .inl (0, .inl (fun _ => 0)), .inl (400, .inl (fun _ => 0)), .inl (400, .inl (fun _ => 0)), .inl (400, .inr (.inl (fun _ => 0))), .inl (36, .inl (fun _ => 0)), .inr (3, [.ref 3, .ref 6, .ref 8, .ref 13, .int 0, .int 0]), .inr (1, [.ref 1, .ref 6, .ref 33, .ref 34]), .inl (12, .inl (upd (upd (upd (upd (upd (upd (upd (upd (upd (upd (upd (upd (fun _ => 0) 0 (-1)) 1 (-1)) 2 (-1)) 3 (-1)) 4 (-1)) 5 (-1)) 6 (-1)) 7 (-1)) 8 (-1)) 9 (-1)) 10 (-1)) 11 (-1))), .inl (64, .inr (.inl (fun _ => 0)))]
noncomputable abbrev rw_h49 : ez_H := [.inr (11, [.ref 1, .ref 3, .ref 6, .ref 8, .ref 10, .ref 13, .ref 20, .ref 22, .ref 31, .ref 32]), .inr (9, [.ref 2, .int 0, .int 0, .int 5, .int 5, .int 0, .int 25, .long 33554431, .long 1082401, .long 17318416]), .inl (3, .inl (upd (fun _ => 0) 1 1)), .inr (2, [.ref 1, .ref 4, .ref 5, .int 0]), .inl (864, .inr (.inl (fun _ => 0))), .inl (3, .inl (fun _ => 0)), .inr (8, [.ref 1, .ref 3, .ref 7, .int 0, .int 0]), .inl (0, .inl (fun _ => 0)), .inr (6, [.ref 9, .int 0, .long 0, .long 0]), .inl (30, .inr (.inl (fun _ => 0))), .inr (7, [.ref 1, .ref 3, .ref 6, .ref 8, .ref 11, .ref 12]), .inl (3, .inr (.inl (fun _ => 0))), .inl (3, .inr (.inl (fun _ => 0))), .inr (4, [.ref 1, .ref 6, .ref 8, .ref 10, .ref 14, .ref 17, .ref 18, .ref 19, .int 0, .int 0]), .inr (10, [.ref 15, .ref 16, .int 0]), .inl (36, .inl (fun _ => 0)), .inl (36, .inl (fun _ => 0)), .inl (0, .inr (.inl (fun _ => 0))), .inl (0, .inr (.inl (fun _ => 0))), .inl (0, .inr (.inl (fun _ => 0))), .inr (5, [.ref 6, .ref 13, .ref 21, .int 0, .int 0, .int 0, .int 0]), .inl (1296, .inl (fun _ => 0)), .inr (0, [.ref 1, .ref 3, .ref 6, .ref 23, .ref 26, .ref 27, .ref 28, .ref 29, .int 0, .ref 30, .int 0, .int (-1)]), .inr (10, [.ref 24, .ref 25, .int 0]), .inl (36, .inl (fun _ => 0)), .inl (36, .inl (fun _ => 0)), .inl (0, .inl (fun _ => 0)), .inl (400, .inl (fun _ => 0)), .inl (400, .inl (fun _ => 0)), .inl (400, .inr (.inl (fun _ => 0))), .inl (36, .inl (fun _ => 0)), .inr (3, [.ref 3, .ref 6, .ref 8, .ref 13, .int 0, .int 0]), .inr (1, [.ref 1, .ref 6, .ref 33, .ref 34]), .inl (12, .inl (upd (upd (upd (upd (upd (upd (upd (upd (upd (upd (upd (upd (fun _ => 0) 0 (-1)) 1 (-1)) 2 (-1)) 3 (-1)) 4 (-1)) 5 (-1)) 6 (-1)) 7 (-1)) 8 (-1)) 9 (-1)) 10 (-1)) 11 (-1))), .inl (64, .inr (.inl (fun _ => 0)))]
noncomputable abbrev rw_h50 : ez_H := [.inr (11, [.ref 1, .ref 3, .ref 6, .ref 8, .ref 10, .ref 13, .ref 20, .ref 22, .ref 31, .ref 32]), .inr (9, [.ref 2, .int 0, .int 0, .int 5, .int 5, .int 0, .int 25, .long 33554431, .long 1082401, .long 17318416]), .inl (3, .inl (upd (fun _ => 0) 1 1)), .inr (2, [.ref 1, .ref 4, .ref 5, .int 0]), .inl (864, .inr (.inl (fun _ => 0))), .inl (3, .inl (fun _ => 0)), .inr (8, [.ref 1, .ref 3, .ref 7, .int 0, .int 0]), .inl (0, .inl (fun _ => 0)), .inr (6, [.ref 9, .int 0, .long 0, .long 0]), .inl (30, .inr (.inl (fun _ => 0))), .inr (7, [.ref 1, .ref 3, .ref 6, .ref 8, .ref 11, .ref 12]), .inl (3, .inr (.inl (fun _ => 0))), .inl (3, .inr (.inl (fun _ => 0))), .inr (4, [.ref 1, .ref 6, .ref 8, .ref 10, .ref 14, .ref 17, .ref 18, .ref 19, .int 0, .int 0]), .inr (10, [.ref 15, .ref 16, .int 0]), .inl (36, .inl (fun _ => 0)), .inl (36, .inl (fun _ => 0)), .inl (0, .inr (.inl (fun _ => 0))), .inl (0, .inr (.inl (fun _ => 0))), .inl (0, .inr (.inl (fun _ => 0))), .inr (5, [.ref 6, .ref 13, .ref 21, .int 0, .int 0, .int 0, .int 0]), .inl (1296, .inl (fun _ => 0)), .inr (0, [.ref 1, .ref 3, .ref 6, .ref 23, .ref 26, .ref 27, .ref 28, .ref 29, .int 0, .ref 30, .int 0, .int (-1)]), .inr (10, [.ref 24, .ref 25, .int 0]), .inl (36, .inl (fun _ => 0)), .inl (36, .inl (fun _ => 0)), .inl (0, .inl (fun _ => 0)), .inl (400, .inl (fun _ => 0)), .inl (400, .inl (fun _ => 0)), .inl (400, .inr (.inl (fun _ => 0))), .inl (36, .inl (fun _ => 0)), .inr (3, [.ref 3, .ref 6, .ref 8, .ref 13, .int 0, .int 0]), .inr (1, [.ref 1, .ref 6, .ref 33, .ref 34]), .inl (12, .inl (upd (upd (upd (upd (upd (upd (upd (upd (upd (upd (upd (upd (fun _ => 0) 0 (-1)) 1 (-1)) 2 (-1)) 3 (-1)) 4 (-1)) 5 (-1)) 6 (-1)) 7 (-1)) 8 (-1)) 9 (-1)) 10 (-1)) 11 (-1))), .inl (64, .inr (.inl (fun _ => 0))), .inr (12, [.int 0, .int 0, .int 0, .int 0, .null, .null, .int 0, .int 0, .int 0, .int 0, .int 0, .null, .null, .null, .int 0, .null, .int 0, .null, .null, .null, .null, .null, .null, .null, .int 0, .null, .null, .null, .null, .null, .null, .null, .null, .null, .null, .null, .int 0, .null, .null, .null, .null, .null])]
noncomputable abbrev rw_h51 : ez_H := [.inr (11, [.ref 1, .ref 3, .ref 6, .ref 8, .ref 10, .ref 13, .ref 20, .ref 22, .ref 31, .ref 32]), .inr (9, [.ref 2, .int 0, .int 0, .int 5, .int 5, .int 0, .int 25, .long 33554431, .long 1082401, .long 17318416]), .inl (3, .inl (upd (fun _ => 0) 1 1)), .inr (2, [.ref 1, .ref 4, .ref 5, .int 0]), .inl (864, .inr (.inl (fun _ => 0))), .inl (3, .inl (fun _ => 0)), .inr (8, [.ref 1, .ref 3, .ref 7, .int 0, .int 0]), .inl (0, .inl (fun _ => 0)), .inr (6, [.ref 9, .int 0, .long 0, .long 0]), .inl (30, .inr (.inl (fun _ => 0))), .inr (7, [.ref 1, .ref 3, .ref 6, .ref 8, .ref 11, .ref 12]), .inl (3, .inr (.inl (fun _ => 0))), .inl (3, .inr (.inl (fun _ => 0))), .inr (4, [.ref 1, .ref 6, .ref 8, .ref 10, .ref 14, .ref 17, .ref 18, .ref 19, .int 0, .int 0]), .inr (10, [.ref 15, .ref 16, .int 0]), .inl (36, .inl (fun _ => 0)), .inl (36, .inl (fun _ => 0)), .inl (0, .inr (.inl (fun _ => 0))), .inl (0, .inr (.inl (fun _ => 0))), .inl (0, .inr (.inl (fun _ => 0))), .inr (5, [.ref 6, .ref 13, .ref 21, .int 0, .int 0, .int 0, .int 0]), .inl (1296, .inl (fun _ => 0)), .inr (0, [.ref 1, .ref 3, .ref 6, .ref 23, .ref 26, .ref 27, .ref 28, .ref 29, .int 0, .ref 30, .int 0, .int (-1)]), .inr (10, [.ref 24, .ref 25, .int 0]), .inl (36, .inl (fun _ => 0)), .inl (36, .inl (fun _ => 0)), .inl (0, .inl (fun _ => 0)), .inl (400, .inl (fun _ => 0)), .inl (400, .inl (fun _ => 0)), .inl (400, .inr (.inl (fun _ => 0))), .inl (36, .inl (fun _ => 0)), .inr (3, [.ref 3, .ref 6, .ref 8, .ref 13, .int 0, .int 0]), .inr (1, [.ref 1, .ref 6, .ref 33, .ref 34]), .inl (12, .inl (upd (upd (upd (upd (upd (upd (upd (upd (upd (upd (upd (upd (fun _ => 0) 0 (-1)) 1 (-1)) 2 (-1)) 3 (-1)) 4 (-1)) 5 (-1)) 6 (-1)) 7 (-1)) 8 (-1)) 9 (-1)) 10 (-1)) 11 (-1))), .inl (64, .inr (.inl (fun _ => 0))), .inr (12, [.int 5, .int 5, .int 0, .int 0, .ref 36, .ref 37, .int 0, .int 0, .int 0, .int 0, .int 0, .null, .null, .null, .int 0, .null, .int 0, .null, .null, .null, .null, .null, .null, .null, .int 0, .null, .null, .null, .null, .null, .null, .null, .null, .null, .null, .null, .int 0, .null, .null, .null, .null, .null]), .inl (3, .inl (fun _ => 0)), .inl (3, .inl (fun _ => 0))]
noncomputable abbrev rw_h52 : ez_H := [.inr (11, [.ref 1, .ref 3, .ref 6, .ref 8, .ref 10, .ref 13, .ref 20, .ref 22, .ref 31, .ref 32]), .inr (9, [.ref 2, .int 0, .int 0, .int 5, .int 5, .int 0, .int 25, .long 33554431, .long 1082401, .long 17318416]), .inl (3, .inl (upd (fun _ => 0) 1 1)), .inr (2, [.ref 1, .ref 4, .ref 5, .int 0]), .inl (864, .inr (.inl (fun _ => 0))), .inl (3, .inl (fun _ => 0)), .inr (8, [.ref 1, .ref 3, .ref 7, .int 0, .int 0]), .inl (0, .inl (fun _ => 0)), .inr (6, [.ref 9, .int 0, .long 0, .long 0]), .inl (30, .inr (.inl (fun _ => 0))), .inr (7, [.ref 1, .ref 3, .ref 6, .ref 8, .ref 11, .ref 12]), .inl (3, .inr (.inl (fun _ => 0))), .inl (3, .inr (.inl (fun _ => 0))), .inr (4, [.ref 1, .ref 6, .ref 8, .ref 10, .ref 14, .ref 17, .ref 18, .ref 19, .int 0, .int 0]), .inr (10, [.ref 15, .ref 16, .int 0]), .inl (36, .inl (fun _ => 0)), .inl (36, .inl (fun _ => 0)), .inl (0, .inr (.inl (fun _ => 0))), .inl (0, .inr (.inl (fun _ => 0))), .inl (0, .inr (.inl (fun _ => 0))), .inr (5, [.ref 6, .ref 13, .ref 21, .int 0, .int 0, .int 0, .int 0]), .inl (1296, .inl (fun _ => 0)), .inr (0, [.ref 1, .ref 3, .ref 6, .ref 23, .ref 26, .ref 27, .ref 28, .ref 29, .int 0, .ref 30, .int 0, .int (-1)]), .inr (10, [.ref 24, .ref 25, .int 0]), .inl (36, .inl (fun _ => 0)), .inl (36, .inl (fun _ => 0)), .inl (0, .inl (fun _ => 0)), .inl (400, .inl (fun _ => 0)), .inl (400, .inl (fun _ => 0)), .inl (400, .inr (.inl (fun _ => 0))), .inl (36, .inl (fun _ => 0)), .inr (3, [.ref 3, .ref 6, .ref 8, .ref 13, .int 0, .int 0]), .inr (1, [.ref 1, .ref 6, .ref 33, .ref 34]), .inl (12, .inl (upd (upd (upd (upd (upd (upd (upd (upd (upd (upd (upd (upd (fun _ => 0) 0 (-1)) 1 (-1)) 2 (-1)) 3 (-1)) 4 (-1)) 5 (-1)) 6 (-1)) 7 (-1)) 8 (-1)) 9 (-1)) 10 (-1)) 11 (-1))), .inl (64, .inr (.inl (fun _ => 0))), .inr (12, [.int 5, .int 5, .int 0, .int 0, .ref 36, .ref 37, .int 0, .int 1, .int 0, .int 0, .int 0, .ref 38, .ref 39, .ref 40, .int 0, .null, .int 0, .null, .null, .null, .null, .null, .null, .null, .int 0, .null, .null, .null, .null, .null, .null, .null, .null, .null, .null, .null, .int 0, .null, .null, .null, .null, .null]), .inl (3, .inl (fun _ => 0)), .inl (3, .inl (fun _ => 0)), .inl (3, .inl (fun _ => 0)), .inl (900, .inr (.inl (fun _ => 0))), .inl (900, .inr (.inl (fun _ => 0)))]
noncomputable abbrev rw_h53 : ez_H := [.inr (11, [.ref 1, .ref 3, .ref 6, .ref 8, .ref 10, .ref 13, .ref 20, .ref 22, .ref 31, .ref 32]), .inr (9, [.ref 2, .int 0, .int 0, .int 5, .int 5, .int 0, .int 25, .long 33554431, .long 1082401, .long 17318416]), .inl (3, .inl (upd (fun _ => 0) 1 1)), .inr (2, [.ref 1, .ref 4, .ref 5, .int 0]), .inl (864, .inr (.inl (fun _ => 0))), .inl (3, .inl (fun _ => 0)), .inr (8, [.ref 1, .ref 3, .ref 7, .int 0, .int 0]), .inl (0, .inl (fun _ => 0)), .inr (6, [.ref 9, .int 0, .long 0, .long 0]), .inl (30, .inr (.inl (fun _ => 0))), .inr (7, [.ref 1, .ref 3, .ref 6, .ref 8, .ref 11, .ref 12]), .inl (3, .inr (.inl (fun _ => 0))), .inl (3, .inr (.inl (fun _ => 0))), .inr (4, [.ref 1, .ref 6, .ref 8, .ref 10, .ref 14, .ref 17, .ref 18, .ref 19, .int 0, .int 0]), .inr (10, [.ref 15, .ref 16, .int 0]), .inl (36, .inl (fun _ => 0)), .inl (36, .inl (fun _ => 0)), .inl (0, .inr (.inl (fun _ => 0))), .inl (0, .inr (.inl (fun _ => 0))), .inl (0, .inr (.inl (fun _ => 0))), .inr (5, [.ref 6, .ref 13, .ref 21, .int 0, .int 0, .int 0, .int 0]), .inl (1296, .inl (fun _ => 0)), .inr (0, [.ref 1, .ref 3, .ref 6, .ref 23, .ref 26, .ref 27, .ref 28, .ref 29, .int 0, .ref 30, .int 0, .int (-1)]), .inr (10, [.ref 24, .ref 25, .int 0]), .inl (36, .inl (fun _ => 0)), .inl (36, .inl (fun _ => 0)), .inl (0, .inl (fun _ => 0)), .inl (400, .inl (fun _ => 0)), .inl (400, .inl (fun _ => 0)), .inl (400, .inr (.inl (fun _ => 0))), .inl (36, .inl (fun _ => 0)), .inr (3, [.ref 3, .ref 6, .ref 8, .ref 13, .int 0, .int 0]), .inr (1, [.ref 1, .ref 6, .ref 33, .ref 34]), .inl (12, .inl (upd (upd (upd (upd (upd (upd (upd (upd (upd (upd (upd (upd (fun _ => 0) 0 (-1)) 1 (-1)) 2 (-1)) 3 (-1)) 4 (-1)) 5 (-1)) 6 (-1)) 7 (-1)) 8 (-1)) 9 (-1)) 10 (-1)) 11 (-1))), .inl (64, .inr (.inl (fun _ => 0))), .inr (12, [.int 5, .int 5, .int 0, .int 0, .ref 36, .ref 37, .int 0, .int 1, .int 0, .int 0, .int 0, .ref 38, .ref 39, .ref 40, .int 0, .ref 41, .int 0, .ref 42, .ref 43, .ref 44, .null, .null, .null, .null, .int 0, .null, .null, .null, .null, .null, .null, .null, .null, .null, .null, .null, .int 0, .null, .null, .null, .null, .null]), .inl (3, .inl (fun _ => 0)), .inl (3, .inl (fun _ => 0)), .inl (3, .inl (fun _ => 0)), .inl (900, .inr (.inl (fun _ => 0))), .inl (900, .inr (.inl (fun _ => 0))), .inl (30003, .inl (fun _ => 0)), .inl (30, .inl (fun _ => 0)), .inl (30, .inl (fun _ => 0)), .inl (30, .inl (fun _ => 0))]
noncomputable abbrev rw_h54 : ez_H := [.inr (11, [.ref 1, .ref 3, .ref 6, .ref 8, .ref 10, .ref 13, .ref 20, .ref 22, .ref 31, .ref 32]), .inr (9, [.ref 2, .int 0, .int 0, .int 5, .int 5, .int 0, .int 25, .long 33554431, .long 1082401, .long 17318416]), .inl (3, .inl (upd (fun _ => 0) 1 1)), .inr (2, [.ref 1, .ref 4, .ref 5, .int 0]), .inl (864, .inr (.inl (fun _ => 0))), .inl (3, .inl (fun _ => 0)), .inr (8, [.ref 1, .ref 3, .ref 7, .int 0, .int 0]), .inl (0, .inl (fun _ => 0)), .inr (6, [.ref 9, .int 0, .long 0, .long 0]), .inl (30, .inr (.inl (fun _ => 0))), .inr (7, [.ref 1, .ref 3, .ref 6, .ref 8, .ref 11, .ref 12]), .inl (3, .inr (.inl (fun _ => 0))), .inl (3, .inr (.inl (fun _ => 0))), .inr (4, [.ref 1, .ref 6, .ref 8, .ref 10, .ref 14, .ref 17, .ref 18, .ref 19, .int 0, .int 0]), .inr (10, [.ref 15, .ref 16, .int 0]), .inl (36, .inl (fun _ => 0)), .inl (36, .inl (fun _ => 0)), .inl (0, .inr (.inl (fun _ => 0))), .inl (0, .inr (.inl (fun _ => 0))), .inl (0, .inr (.inl (fun _ => 0))), .inr (5, [.ref 6, .ref 13, .ref 21, .int 0, .int 0, .int 0, .int 0]), .inl (1296, .inl (fun _ => 0)), .inr (0, [.ref 1, .ref 3, .ref 6, .ref 23, .ref 26, .ref 27, .ref 28, .ref 29, .int 0, .ref 30, .int 0, .int (-1)]), .inr (10, [.ref 24, .ref 25, .int 0]), .inl (36, .inl (fun _ => 0)), .inl (36, .inl (fun _ => 0)), .inl (0, .inl (fun _ => 0)), .inl (400, .inl (fun _ => 0)), .inl (400, .inl (fun _ => 0)), .inl (400, .inr (.inl (fun _ => 0))), .inl (36, .inl (fun _ => 0)), .inr (3, [.ref 3, .ref 6, .ref 8, .ref 13, .int 0, .int 0]), .inr (1, [.ref 1, .ref 6, .ref 33, .ref 34]), .inl (12, .inl (upd (upd (upd (upd (upd (upd (upd (upd (upd (upd (upd (upd (fun _ => 0) 0 (-1)) 1 (-1)) 2 (-1)) 3 (-1)) 4 (-1)) 5 (-1)) 6 (-1)) 7 (-1)) 8 (-1)) 9 (-1)) 10 (-1)) 11 (-1))), .inl (64, .inr (.inl (fun _ => 0))), .inr (12, [.int 5, .int 5, .int 0, .int 0, .ref 36, .ref 37, .int 0, .int 1, .int 0, .int 0, .int 0, .ref 38, .ref 39, .ref 40, .int 0, .ref 41, .int 0, .ref 42, .ref 43, .ref 44, .ref 45, .ref 46, .ref 47, .ref 48, .int 0, .null, .null, .null, .null, .null, .null, .null, .null, .null, .null, .null, .int 0, .null, .null, .null, .null, .null]), .inl (3, .inl (fun _ => 0)), .inl (3, .inl (fun _ => 0)), .inl (3, .inl (fun _ => 0)), .inl (900, .inr (.inl (fun _ => 0))), .inl (900, .inr (.inl (fun _ => 0))), .inl (30003, .inl (fun _ => 0)), .inl (30, .inl (fun _ => 0)), .inl (30, .inl (fun _ => 0)), .inl (30, .inl (fun _ => 0)), .inl (3, .inr (.inl (fun _ => 0))), .inl (3, .inr (.inl (fun _ => 0))), .inl (3, .inr (.inl (fun _ => 0))), .inl (31, .inl (fun _ => 0))]
noncomputable abbrev rw_h55 : ez_H := [.inr (11, [.ref 1, .ref 3, .ref 6, .ref 8, .ref 10, .ref 13, .ref 20, .ref 22, .ref 31, .ref 32]), .inr (9, [.ref 2, .int 0, .int 0, .int 5, .int 5, .int 0, .int 25, .long 33554431, .long 1082401, .long 17318416]), .inl (3, .inl (upd (fun _ => 0) 1 1)), .inr (2, [.ref 1, .ref 4, .ref 5, .int 0]), .inl (864, .inr (.inl (fun _ => 0))), .inl (3, .inl (fun _ => 0)), .inr (8, [.ref 1, .ref 3, .ref 7, .int 0, .int 0]), .inl (0, .inl (fun _ => 0)), .inr (6, [.ref 9, .int 0, .long 0, .long 0]), .inl (30, .inr (.inl (fun _ => 0))), .inr (7, [.ref 1, .ref 3, .ref 6, .ref 8, .ref 11, .ref 12]), .inl (3, .inr (.inl (fun _ => 0))), .inl (3, .inr (.inl (fun _ => 0))), .inr (4, [.ref 1, .ref 6, .ref 8, .ref 10, .ref 14, .ref 17, .ref 18, .ref 19, .int 0, .int 0]), .inr (10, [.ref 15, .ref 16, .int 0]), .inl (36, .inl (fun _ => 0)), .inl (36, .inl (fun _ => 0)), .inl (0, .inr (.inl (fun _ => 0))), .inl (0, .inr (.inl (fun _ => 0))), .inl (0, .inr (.inl (fun _ => 0))), .inr (5, [.ref 6, .ref 13, .ref 21, .int 0, .int 0, .int 0, .int 0]), .inl (1296, .inl (fun _ => 0)), .inr (0, [.ref 1, .ref 3, .ref 6, .ref 23, .ref 26, .ref 27, .ref 28, .ref 29, .int 0, .ref 30, .int 0, .int (-1)]), .inr (10, [.ref 24, .ref 25, .int 0]), .inl (36, .inl (fun _ => 0)), .inl (36, .inl (fun _ => 0)), .inl (0, .inl (fun _ => 0)), .inl (400, .inl (fun _ => 0)), .inl (400, .inl (fun _ => 0)), .inl (400, .inr (.inl (fun _ => 0))), .inl (36, .inl (fun _ => 0)), .inr (3, [.ref 3, .ref 6, .ref 8, .ref 13, .int 0, .int 0]), .inr (1, [.ref 1, .ref 6, .ref 33, .ref 34]), .inl (12, .inl (upd (upd (upd (upd (upd (upd (upd (upd (upd (upd (upd (upd (fun _ => 0) 0 (-1)) 1 (-1)) 2 (-1)) 3 (-1)) 4 (-1)) 5 (-1)) 6 (-1)) 7 (-1)) 8 (-1)) 9 (-1)) 10 (-1)) 11 (-1))), .inl (64, .inr (.inl (fun _ => 0))), .inr (12, [.int 5, .int 5, .int 0, .int 0, .ref 36, .ref 37, .int 0, .int 1, .int 0, .int 0, .int 0, .ref 38, .ref 39, .ref 40, .int 0, .ref 41, .int 0, .ref 42, .ref 43, .ref 44, .ref 45, .ref 46, .ref 47, .ref 48, .int 0, .ref 49, .ref 50, .ref 51, .ref 52, .null, .null, .null, .null, .null, .null, .null, .int 0, .null, .null, .null, .null, .null]), .inl (3, .inl (fun _ => 0)), .inl (3, .inl (fun _ => 0)), .inl (3, .inl (fun _ => 0)), .inl (900, .inr (.inl (fun _ => 0))), .inl (900, .inr (.inl (fun _ => 0))), .inl (30003, .inl (fun _ => 0)), .inl (30, .inl (fun _ => 0)), .inl (30, .inl (fun _ => 0)), .inl (30, .inl (fun _ => 0)), .inl (3, .inr (.inl (fun _ => 0))), .inl (3, .inr (.inl (fun _ => 0))), .inl (3, .inr (.inl (fun _ => 0))), .inl (31, .inl (fun _ => 0)), .inl (10001, .inl (fun _ => 0)), .inl (30003, .inr (.inl (fun _ => 0))), .inl (30003, .inr (.inl (fun _ => 0))), .inl (10001, .inr (.inl (fun _ => 0)))]
noncomputable abbrev rw_h56 : ez_H := [.inr (11, [.ref 1, .ref 3, .ref 6, .ref 8, .ref 10, .ref 13, .ref 20, .ref 22, .ref 31, .ref 32]), .inr (9, [.ref 2, .int 0, .int 0, .int 5, .int 5, .int 0, .int 25, .long 33554431, .long 1082401, .long 17318416]), .inl (3, .inl (upd (fun _ => 0) 1 1)), .inr (2, [.ref 1, .ref 4, .ref 5, .int 0]), .inl (864, .inr (.inl (fun _ => 0))), .inl (3, .inl (fun _ => 0)), .inr (8, [.ref 1, .ref 3, .ref 7, .int 0, .int 0]), .inl (0, .inl (fun _ => 0)), .inr (6, [.ref 9, .int 0, .long 0, .long 0]), .inl (30, .inr (.inl (fun _ => 0))), .inr (7, [.ref 1, .ref 3, .ref 6, .ref 8, .ref 11, .ref 12]), .inl (3, .inr (.inl (fun _ => 0))), .inl (3, .inr (.inl (fun _ => 0))), .inr (4, [.ref 1, .ref 6, .ref 8, .ref 10, .ref 14, .ref 17, .ref 18, .ref 19, .int 0, .int 0]), .inr (10, [.ref 15, .ref 16, .int 0]), .inl (36, .inl (fun _ => 0)), .inl (36, .inl (fun _ => 0)), .inl (0, .inr (.inl (fun _ => 0))), .inl (0, .inr (.inl (fun _ => 0))), .inl (0, .inr (.inl (fun _ => 0))), .inr (5, [.ref 6, .ref 13, .ref 21, .int 0, .int 0, .int 0, .int 0]), .inl (1296, .inl (fun _ => 0)), .inr (0, [.ref 1, .ref 3, .ref 6, .ref 23, .ref 26, .ref 27, .ref 28, .ref 29, .int 0, .ref 30, .int 0, .int (-1)]), .inr (10, [.ref 24, .ref 25, .int 0]), .inl (36, .inl (fun _ => 0)), .inl (36, .inl (fun _ => 0)), .inl (0, .inl (fun _ => 0)), .inl (400, .inl (fun _ => 0)), .inl (400, .inl (fun _ => 0)), .inl (400, .inr (.inl (fun _ => 0))), .inl (36, .inl (fun _ => 0)), .inr (3, [.ref 3, .ref 6, .ref 8, .ref 13, .int 0, .int 0]), .inr (1, [.ref 1, .ref 6, .ref 33, .ref 34]), .inl (12, .inl (upd (upd (upd (upd (upd (upd (upd (upd (upd (upd (upd (upd (fun _ => 0) 0 (-1)) 1 (-1)) 2 (-1)) 3 (-1)) 4 (-1)) 5 (-1)) 6 (-1)) 7 (-1)) 8 (-1)) 9 (-1)) 10 (-1)) 11 (-1))), .inl (64, .inr (.inl (fun _ => 0))), .inr (12, [.int 5, .int 5, .int 0, .int 0, .ref 36, .ref 37, .int 0, .int 1, .int 0, .int 0, .int 0, .ref 38, .ref 39, .ref 40, .int 0, .ref 41, .int 0, .ref 42, .ref 43, .ref 44, .ref 45, .ref 46, .ref 47, .ref 48, .int 0, .ref 49, .ref 50, .ref 51, .ref 52, .ref 53, .ref 54, .ref 55, .ref 56, .null, .null, .null, .int 0, .null, .null, .null, .null, .null]), .inl (3, .inl (fun _ => 0)), .inl (3, .inl (fun _ => 0)), .inl (3, .inl (fun _ => 0)), .inl (900, .inr (.inl (fun _ => 0))), .inl (900, .inr (.inl (fun _ => 0))), .inl (30003, .inl (fun _ => 0)), .inl (30, .inl (fun _ => 0)), .inl (30, .inl (fun _ => 0)), .inl (30, .inl (fun _ => 0)), .inl (3, .inr (.inl (fun _ => 0))), .inl (3, .inr (.inl (fun _ => 0))), .inl (3, .inr (.inl (fun _ => 0))), .inl (31, .inl (fun _ => 0)), .inl (10001, .inl (fun _ => 0)), .inl (30003, .inr (.inl (fun _ => 0))), .inl (30003, .inr (.inl (fun _ => 0))), .inl (10001, .inr (.inl (fun _ => 0))), .inl (4, .inl (fun _ => 0)), .inl (1210, .inl (fun _ => 0)), .inl (1210, .inl (fun _ => 0)), .inl (1210, .inr (.inl (fun _ => 0)))]
noncomputable abbrev rw_h57 : ez_H := [.inr (11, [.ref 1, .ref 3, .ref 6, .ref 8, .ref 10, .ref 13, .ref 20, .ref 22, .ref 31, .ref 32]), .inr (9, [.ref 2, .int 0, .int 0, .int 5, .int 5, .int 0, .int 25, .long 33554431, .long 1082401, .long 17318416]), .inl (3, .inl (upd (fun _ => 0) 1 1)), .inr (2, [.ref 1, .ref 4, .ref 5, .int 0]), .inl (864, .inr (.inl (fun _ => 0))), .inl (3, .inl (fun _ => 0)), .inr (8, [.ref 1, .ref 3, .ref 7, .int 0, .int 0]), .inl (0, .inl (fun _ => 0)), .inr (6, [.ref 9, .int 0, .long 0, .long 0]), .inl (30, .inr (.inl (fun _ => 0))), .inr (7, [.ref 1, .ref 3, .ref 6, .ref 8, .ref 11, .ref 12]), .inl (3, .inr (.inl (fun _ => 0))), .inl (3, .inr (.inl (fun _ => 0))), .inr (4, [.ref 1, .ref 6, .ref 8, .ref 10, .ref 14, .ref 17, .ref 18, .ref 19, .int 0, .int 0]), .inr (10, [.ref 15, .ref 16, .int 0]), .inl (36, .inl (fun _ => 0)), .inl (36, .inl (fun _ => 0)), .inl (0, .inr (.inl (fun _ => 0))), .inl (0, .inr (.inl (fun _ => 0))), .inl (0, .inr (.inl (fun _ => 0))), .inr (5, [.ref 6, .ref 13, .ref 21, .int 0, .int 0, .int 0, .int 0]), .inl (1296, .inl (fun _ => 0)), .inr (0, [.ref 1, .ref 3, .ref 6, .ref 23, .ref 26, .ref 27, .ref 28, .ref 29, .int 0, .ref 30, .int 0, .int (-1)]), .inr (10, [.ref 24, .ref 25, .int 0]), .inl (36, .inl (fun _ => 0)), .inl (36, .inl (fun _ => 0)), .inl (0, .inl (fun _ => 0)), .inl (400, .inl (fun _ => 0)), .inl (400, .inl (fun _ => 0)), .inl (400, .inr (.inl (fun _ => 0))), .inl (36, .inl (fun _ => 0)), .inr (3, [.ref 3, .ref 6, .ref 8, .ref 13, .int 0, .int 0]), .inr (1, [.ref 1, .ref 6, .ref 33, .ref 34]), .inl (12, .inl (upd (upd (upd (upd (upd (upd (upd (upd (upd (upd (upd (upd (fun _ => 0) 0 (-1)) 1 (-1)) 2 (-1)) 3 (-1)) 4 (-1)) 5 (-1)) 6 (-1)) 7 (-1)) 8 (-1)) 9 (-1)) 10 (-1)) 11 (-1))), .inl (64, .inr (.inl (fun _ => 0))), .inr (12, [.int 5, .int 5, .int 0, .int 0, .ref 36, .ref 37, .int 0, .int 1, .int 0, .int 0, .int 0, .ref 38, .ref 39, .ref 40, .int 0, .ref 41, .int 0, .ref 42, .ref 43, .ref 44, .ref 45, .ref 46, .ref 47, .ref 48, .int 0, .ref 49, .ref 50, .ref 51, .ref 52, .ref 53, .ref 54, .ref 55, .ref 56, .ref 57, .ref 58, .ref 59, .int 0, .ref 60, .null, .null, .null, .null]), .inl (3, .inl (fun _ => 0)), .inl (3, .inl (fun _ => 0)), .inl (3, .inl (fun _ => 0)), .inl (900, .inr (.inl (fun _ => 0))), .inl (900, .inr (.inl (fun _ => 0))), .inl (30003, .inl (fun _ => 0)), .inl (30, .inl (fun _ => 0)), .inl (30, .inl (fun _ => 0)), .inl (30, .inl (fun _ => 0)), .inl (3, .inr (.inl (fun _ => 0))), .inl (3, .inr (.inl (fun _ => 0))), .inl (3, .inr (.inl (fun _ => 0))), .inl (31, .inl (fun _ => 0)), .inl (10001, .inl (fun _ => 0)), .inl (30003, .inr (.inl (fun _ => 0))), .inl (30003, .inr (.inl (fun _ => 0))), .inl (10001, .inr (.inl (fun _ => 0))), .inl (4, .inl (fun _ => 0)), .inl (1210, .inl (fun _ => 0)), .inl (1210, .inl (fun _ => 0)), .inl (1210, .inr (.inl (fun _ => 0))), .inl (401, .inl (fun _ => 0)), .inl (401, .inl (fun _ => 0)), .inl (401, .inl (fun _ => 0)), .inl (40, .inl (fun _ => 0))]
noncomputable abbrev rw_h58 : ez_H := [.inr (11, [.ref 1, .ref 3, .ref 6, .ref 8, .ref 10, .ref 13, .ref 20, .ref 22, .ref 31, .ref 32]), .inr (9, [.ref 2, .int 0, .int 0, .int 5, .int 5, .int 0, .int 25, .long 33554431, .long 1082401, .long 17318416]), .inl (3, .inl (upd (fun _ => 0) 1 1)), .inr (2, [.ref 1, .ref 4, .ref 5, .int 0]), .inl (864, .inr (.inl (fun _ => 0))), .inl (3, .inl (fun _ => 0)), .inr (8, [.ref 1, .ref 3, .ref 7, .int 0, .int 0]), .inl (0, .inl (fun _ => 0)), .inr (6, [.ref 9, .int 0, .long 0, .long 0]), .inl (30, .inr (.inl (fun _ => 0))), .inr (7, [.ref 1, .ref 3, .ref 6, .ref 8, .ref 11, .ref 12]), .inl (3, .inr (.inl (fun _ => 0))), .inl (3, .inr (.inl (fun _ => 0))), .inr (4, [.ref 1, .ref 6, .ref 8, .ref 10, .ref 14, .ref 17, .ref 18, .ref 19, .int 0, .int 0]), .inr (10, [.ref 15, .ref 16, .int 0]), .inl (36, .inl (fun _ => 0)), .inl (36, .inl (fun _ => 0)), .inl (0, .inr (.inl (fun _ => 0))), .inl (0, .inr (.inl (fun _ => 0))), .inl (0, .inr (.inl (fun _ => 0))), .inr (5, [.ref 6, .ref 13, .ref 21, .int 0, .int 0, .int 0, .int 0]), .inl (1296, .inl (fun _ => 0)), .inr (0, [.ref 1, .ref 3, .ref 6, .ref 23, .ref 26, .ref 27, .ref 28, .ref 29, .int 0, .ref 30, .int 0, .int (-1)]), .inr (10, [.ref 24, .ref 25, .int 0]), .inl (36, .inl (fun _ => 0)), .inl (36, .inl (fun _ => 0)), .inl (0, .inl (fun _ => 0)), .inl (400, .inl (fun _ => 0)), .inl (400, .inl (fun _ => 0)), .inl (400, .inr (.inl (fun _ => 0))), .inl (36, .inl (fun _ => 0)), .inr (3, [.ref 3, .ref 6, .ref 8, .ref 13, .int 0, .int 0]), .inr (1, [.ref 1, .ref 6, .ref 33, .ref 34]), .inl (12, .inl (upd (upd (upd (upd (upd (upd (upd (upd (upd (upd (upd (upd (fun _ => 0) 0 (-1)) 1 (-1)) 2 (-1)) 3 (-1)) 4 (-1)) 5 (-1)) 6 (-1)) 7 (-1)) 8 (-1)) 9 (-1)) 10 (-1)) 11 (-1))), .inl (64, .inr (.inl (fun _ => 0))), .inr (12, [.int 5, .int 5, .int 0, .int 0, .ref 36, .ref 37, .int 0, .int 1, .int 0, .int 0, .int 0, .ref 38, .ref 39, .ref 40, .int 0, .ref 41, .int 0, .ref 42, .ref 43, .ref 44, .ref 45, .ref 46, .ref 47, .ref 48, .int 0, .ref 49, .ref 50, .ref 51, .ref 52, .ref 53, .ref 54, .ref 55, .ref 56, .ref 57, .ref 58, .ref 59, .int 0, .ref 60, .ref 61, .ref 62, .ref 63, .ref 64]), .inl (3, .inl (fun _ => 0)), .inl (3, .inl (fun _ => 0)), .inl (3, .inl (fun _ => 0)), .inl (900, .inr (.inl (fun _ => 0))), .inl (900, .inr (.inl (fun _ => 0))), .inl (30003, .inl (fun _ => 0)), .inl (30, .inl (fun _ => 0)), .inl (30, .inl (fun _ => 0)), .inl (30, .inl (fun _ => 0)), .inl (3, .inr (.inl (fun _ => 0))), .inl (3, .inr (.inl (fun _ => 0))), .inl (3, .inr (.inl (fun _ => 0))), .inl (31, .inl (fun _ => 0)), .inl (10001, .inl (fun _ => 0)), .inl (30003, .inr (.inl (fun _ => 0))), .inl (30003, .inr (.inl (fun _ => 0))), .inl (10001, .inr (.inl (fun _ => 0))), .inl (4, .inl (fun _ => 0)), .inl (1210, .inl (fun _ => 0)), .inl (1210, .inl (fun _ => 0)), .inl (1210, .inr (.inl (fun _ => 0))), .inl (401, .inl (fun _ => 0)), .inl (401, .inl (fun _ => 0)), .inl (401, .inl (fun _ => 0)), .inl (40, .inl (fun _ => 0)), .inl (12, .inl (fun _ => 0)), .inl (401, .inl (fun _ => 0)), .inl (401, .inl (fun _ => 0)), .inl (401, .inl (fun _ => 0))]
noncomputable abbrev rw_h59 : ez_H := [.inr (11, [.ref 1, .ref 3, .ref 6, .ref 8, .ref 10, .ref 13, .ref 20, .ref 22, .ref 31, .ref 32]), .inr (9, [.ref 2, .int 0, .int 0, .int 5, .int 5, .int 0, .int 25, .long 33554431, .long 1082401, .long 17318416]), .inl (3, .inl (upd (fun _ => 0) 1 1)), .inr (2, [.ref 1, .ref 4, .ref 5, .int 0]), .inl (864, .inr (.inl (fun _ => 0))), .inl (3, .inl (fun _ => 0)), .inr (8, [.ref 1, .ref 3, .ref 7, .int 0, .int 0]), .inl (0, .inl (fun _ => 0)), .inr (6, [.ref 9, .int 0, .long 0, .long 0]), .inl (30, .inr (.inl (fun _ => 0))), .inr (7, [.ref 1, .ref 3, .ref 6, .ref 8, .ref 11, .ref 12]), .inl (3, .inr (.inl (fun _ => 0))), .inl (3, .inr (.inl (fun _ => 0))), .inr (4, [.ref 1, .ref 6, .ref 8, .ref 10, .ref 14, .ref 17, .ref 18, .ref 19, .int 0, .int 0]), .inr (10, [.ref 15, .ref 16, .int 0]), .inl (36, .inl (fun _ => 0)), .inl (36, .inl (fun _ => 0)), .inl (0, .inr (.inl (fun _ => 0))), .inl (0, .inr (.inl (fun _ => 0))), .inl (0, .inr (.inl (fun _ => 0))), .inr (5, [.ref 6, .ref 13, .ref 21, .int 0, .int 0, .int 0, .int 0]), .inl (1296, .inl (fun _ => 0)), .inr (0, [.ref 1, .ref 3, .ref 6, .ref 23, .ref 26, .ref 27, .ref 28, .ref 29, .int 0, .ref 30, .int 0, .int (-1)]), .inr (10, [.ref 24, .ref 25, .int 0]), .inl (36, .inl (fun _ => 0)), .inl (36, .inl (fun _ => 0)), .inl (0, .inl (fun _ => 0)), .inl (400, .inl (fun _ => 0)), .inl (400, .inl (fun _ => 0)), .inl (400, .inr (.inl (fun _ => 0))), .inl (36, .inl (fun _ => 0)), .inr (3, [.ref 3, .ref 6, .ref 8, .ref 13, .int 0, .int 0]), .inr (1, [.ref 1, .ref 6, .ref 33, .ref 34]), .inl (12, .inl (upd (upd (upd (upd (upd (upd (upd (upd (upd (upd (upd (upd (fun _ => 0) 0 (-1)) 1 (-1)) 2 (-1)) 3 (-1)) 4 (-1)) 5 (-1)) 6 (-1)) 7 (-1)) 8 (-1)) 9 (-1)) 10 (-1)) 11 (-1))), .inl (64, .inr (.inl (fun _ => 0))), .inr (12, [.int 5, .int 5, .int 0, .int 0, .ref 36, .ref 37, .int 0, .int 1, .int 0, .int 0, .int 0, .ref 38, .ref 39, .ref 40, .int 0, .ref 41, .int 0, .ref 42, .ref 43, .ref 44, .ref 45, .ref 46, .ref 47, .ref 48, .int 0, .ref 49, .ref 50, .ref 51, .ref 52, .ref 53, .ref 54, .ref 55, .ref 56, .ref 57, .ref 58, .ref 59, .int 0, .ref 60, .ref 61, .ref 62, .ref 63, .ref 64]), .inl (3, .inl (fun _ => 0)), .inl (3, .inl (fun _ => 0)), .inl (3, .inl (fun _ => 0)), .inl (900, .inr (.inl (fun _ => 0))), .inl (900, .inr (.inl (fun _ => 0))), .inl (30003, .inl (fun _ => 0)), .inl (30, .inl (fun _ => 0)), .inl (30, .inl (fun _ => 0)), .inl (30, .inl (fun _ => 0)), .inl (3, .inr (.inl (fun _ => 0))), .inl (3, .inr (.inl (fun _ => 0))), .inl (3, .inr (.inl (fun _ => 0))), .inl (31, .inl (fun _ => 0)), .inl (10001, .inl (fun _ => 0)), .inl (30003, .inr (.inl (fun _ => 0))), .inl (30003, .inr (.inl (fun _ => 0))), .inl (10001, .inr (.inl (fun _ => 0))), .inl (4, .inl (fun _ => 0)), .inl (1210, .inl (fun _ => 0)), .inl (1210, .inl (fun _ => 0)), .inl (1210, .inr (.inl (fun _ => 0))), .inl (401, .inl (fun _ => 0)), .inl (401, .inl (fun _ => 0)), .inl (401, .inl (fun _ => 0)), .inl (40, .inl (fun _ => 0)), .inl (12, .inl (upd (fun _ => 0) 0 (-1))), .inl (401, .inl (fun _ => 0)), .inl (401, .inl (fun _ => 0)), .inl (401, .inl (fun _ => 0))]
noncomputable abbrev rw_h60 : ez_H := [.inr (11, [.ref 1, .ref 3, .ref 6, .ref 8, .ref 10, .ref 13, .ref 20, .ref 22, .ref 31, .ref 32]), .inr (9, [.ref 2, .int 0, .int 0, .int 5, .int 5, .int 0, .int 25, .long 33554431, .long 1082401, .long 17318416]), .inl (3, .inl (upd (fun _ => 0) 1 1)), .inr (2, [.ref 1, .ref 4, .ref 5, .int 0]), .inl (864, .inr (.inl (fun _ => 0))), .inl (3, .inl (fun _ => 0)), .inr (8, [.ref 1, .ref 3, .ref 7, .int 0, .int 0]), .inl (0, .inl (fun _ => 0)), .inr (6, [.ref 9, .int 0, .long 0, .long 0]), .inl (30, .inr (.inl (fun _ => 0))), .inr (7, [.ref 1, .ref 3, .ref 6, .ref 8, .ref 11, .ref 12]), .inl (3, .inr (.inl (fun _ => 0))), .inl (3, .inr (.inl (fun _ => 0))), .inr (4, [.ref 1, .ref 6, .ref 8, .ref 10, .ref 14, .ref 17, .ref 18, .ref 19, .int 0, .int 0]), .inr (10, [.ref 15, .ref 16, .int 0]), .inl (36, .inl (fun _ => 0)), .inl (36, .inl (fun _ => 0)), .inl (0, .inr (.inl (fun _ => 0))), .inl (0, .inr (.inl (fun _ => 0))), .inl (0, .inr (.inl (fun _ => 0))), .inr (5, [.ref 6, .ref 13, .ref 21, .int 0, .int 0, .int 0, .int 0]), .inl (1296, .inl (fun _ => 0)), .inr (0, [.ref 1, .ref 3, .ref 6, .ref 23, .ref 26, .ref 27, .ref 28, .ref 29, .int 0, .ref 30, .int 0, .int (-1)]), .inr (10, [.ref 24, .ref 25, .int 0]), .inl (36, .inl (fun _ => 0)), .inl (36, .inl (fun _ => 0)), .inl (0, .inl (fun _ => 0)), .inl (400, .inl (fun _ => 0)), .inl (400, .inl (fun _ => 0)), .inl (400, .inr (.inl (fun _ => 0))), .inl (36, .inl (fun _ => 0)), .inr (3, [.ref 3, .ref 6, .ref 8, .ref 13, .int 0, .int 0]), .inr (1, [.ref 1, .ref 6, .ref 33, .ref 34]), .inl (12, .inl (upd (upd (upd (upd (upd (upd (upd (upd (upd (upd (upd (upd (fun _ => 0) 0 (-1)) 1 (-1)) 2 (-1)) 3 (-1)) 4 (-1)) 5 (-1)) 6 (-1)) 7 (-1)) 8 (-1)) 9 (-1)) 10 (-1)) 11 (-1))), .inl (64, .inr (.inl (fun _ => 0))), .inr (12, [.int 5, .int 5, .int 0, .int 0, .ref 36, .ref 37, .int 0, .int 1, .int 0, .int 0, .int 0, .ref 38, .ref 39, .ref 40, .int 0, .ref 41, .int 0, .ref 42, .ref 43, .ref 44, .ref 45, .ref 46, .ref 47, .ref 48, .int 0, .ref 49, .ref 50, .ref 51, .ref 52, .ref 53, .ref 54, .ref 55, .ref 56, .ref 57, .ref 58, .ref 59, .int 0, .ref 60, .ref 61, .ref 62, .ref 63, .ref 64]), .inl (3, .inl (fun _ => 0)), .inl (3, .inl (fun _ => 0)), .inl (3, .inl (fun _ => 0)), .inl (900, .inr (.inl (fun _ => 0))), .inl (900, .inr (.inl (fun _ => 0))), .inl (30003, .inl (fun _ => 0)), .inl (30, .inl (fun _ => 0)), .inl (30, .inl (fun _ => 0)), .inl (30, .inl (fun _ => 0)), .inl (3, .inr (.inl (fun _ => 0))), .inl (3, .inr (.inl (fun _ => 0))), .inl (3, .inr (.inl (fun _ => 0))), .inl (31, .inl (fun _ => 0)), .inl (10001, .inl (fun _ => 0)), .inl (30003, .inr (.inl (fun _ => 0))), .inl (30003, .inr (.inl (fun _ => 0))), .inl (10001, .inr (.inl (fun _ => 0))), .inl (4, .inl (fun _ => 0)), .inl (1210, .inl (fun _ => 0)), .inl (1210, .inl (fun _ => 0)), .inl (1210, .inr (.inl (fun _ => 0))), .inl (401, .inl (fun _ => 0)), .inl (401, .inl (fun _ => 0)), .inl (401, .inl (fun _ => 0)), .inl (40, .inl (fun _ => 0)), .inl (12, .inl (upd (upd (upd (fun _ => 0) 0 (-1)) 1 (-1)) 2 (-1))), .inl (401, .inl (fun _ => 0)), .inl (401, .inl (fun _ => 0)), .inl (401, .inl (fun _ => 0))]
noncomputable abbrev rw_h61 : ez_H := [.inr (11, [.ref 1, .ref 3, .ref 6, .ref 8, .ref 10, .ref 13, .ref 20, .ref 22, .ref 31, .ref 32]), .inr (9, [.ref 2, .int 0, .int 0, .int 5, .int 5, .int 0, .int 25, .long 33554431, .long 1082401, .long 17318416]), .inl (3, .inl (upd (fun _ => 0) 1 1)), .inr (2, [.ref 1, .ref 4, .ref 5, .int 0]), .inl (864, .inr (.inl (fun _ => 0))), .inl (3, .inl (fun _ => 0)), .inr (8, [.ref 1, .ref 3, .ref 7, .int 0, .int 0]), .inl (0, .inl (fun _ => 0)), .inr (6, [.ref 9, .int 0, .long 0, .long 0]), .inl (30, .inr (.inl (fun _ => 0))), .inr (7, [.ref 1, .ref 3, .ref 6, .ref 8, .ref 11, .ref 12]), .inl (3, .inr (.inl (fun _ => 0))), .inl (3, .inr (.inl (fun _ => 0))), .inr (4, [.ref 1, .ref 6, .ref 8, .ref 10, .ref 14, .ref 17, .ref 18, .ref 19, .int 0, .int 0]), .inr (10, [.ref 15, .ref 16, .int 0]), .inl (36, .inl (fun _ => 0)), .inl (36, .inl (fun _ => 0)), .inl (0, .inr (.inl (fun _ => 0))), .inl (0, .inr (.inl (fun _ => 0))), .inl (0, .inr (.inl (fun _ => 0))), .inr (5, [.ref 6, .ref 13, .ref 21, .int 0, .int 0, .int 0, .int 0]), .inl (1296, .inl (fun _ => 0)), .inr (0, [.ref 1, .ref 3, .ref 6, .ref 23, .ref 26, .ref 27, .ref 28, .ref 29, .int 0, .ref 30, .int 0, .int (-1)]), .inr (10, [.ref 24, .ref 25, .int 0]), .inl (36, .inl (fun _ => 0)), .inl (36, .inl (fun _ => 0)), .inl (0, .inl (fun _ => 0)), .inl (400, .inl (fun _ => 0)), .inl (400, .inl (fun _ => 0)), .inl (400, .inr (.inl (fun _ => 0))), .inl (36, .inl (fun _ => 0)), .inr (3, [.ref 3, .ref 6, .ref 8, .ref 13, .int 0, .int 0]), .inr (1, [.ref 1, .ref 6, .ref 33, .ref 34]), .inl (12, .inl (upd (upd (upd (upd (upd (upd (upd (upd (upd (upd (upd (upd (fun _ => 0) 0 (-1)) 1 (-1)) 2 (-1)) 3 (-1)) 4 (-1)) 5 (-1)) 6 (-1)) 7 (-1)) 8 (-1)) 9 (-1)) 10 (-1)) 11 (-1))), .inl (64, .inr (.inl (fun _ => 0))), .inr (12, [.int 5, .int 5, .int 0, .int 0, .ref 36, .ref 37, .int 0, .int 1, .int 0, .int 0, .int 0, .ref 38, .ref 39, .ref 40, .int 0, .ref 41, .int 0, .ref 42, .ref 43, .ref 44, .ref 45, .ref 46, .ref 47, .ref 48, .int 0, .ref 49, .ref 50, .ref 51, .ref 52, .ref 53, .ref 54, .ref 55, .ref 56, .ref 57, .ref 58, .ref 59, .int 0, .ref 60, .ref 61, .ref 62, .ref 63, .ref 64]), .inl (3, .inl (fun _ => 0)), .inl (3, .inl (fun _ => 0)), .inl (3, .inl (fun _ => 0)), .inl (900, .inr (.inl (fun _ => 0))), .inl (900, .inr (.inl (fun _ => 0))), .inl (30003, .inl (fun _ => 0)), .inl (30, .inl (fun _ => 0)), .inl (30, .inl (fun _ => 0)), .inl (30, .inl (fun _ => 0)), .inl (3, .inr (.inl (fun _ => 0))), .inl (3, .inr (.inl (fun _ => 0))), .inl (3, .inr (.inl (fun _ => 0))), .inl (31, .inl (fun _ => 0)), .inl (10001, .inl (fun _ => 0)), .inl (30003, .inr (.inl (fun _ => 0))), .inl (30003, .inr (.inl (fun _ => 0))), .inl (10001, .inr (.inl (fun _ => 0))), .inl (4, .inl (fun _ => 0)), .inl (1210, .inl (fun _ => 0)), .inl (1210, .inl (fun _ => 0)), .inl (1210, .inr (.inl (fun _ => 0))), .inl (401, .inl (fun _ => 0)), .inl (401, .inl (fun _ => 0)), .inl (401, .inl (fun _ => 0)), .inl (40, .inl (fun _ => 0)), .inl (12, .inl (upd (upd (upd (upd (fun _ => 0) 0 (-1)) 1 (-1)) 2 (-1)) 3 (-1))), .inl (401, .inl (fun _ => 0)), .inl (401, .inl (fun _ => 0)), .inl (401, .inl (fun _ => 0))]
noncomputable abbrev rw_h62 : ez_H := [.inr (11, [.ref 1, .ref 3, .ref 6, .ref 8, .ref 10, .ref 13, .ref 20, .ref 22, .ref 31, .ref 32]), .inr (9, [.ref 2, .int 0, .int 0, .int 5, .int 5, .int 0, .int 25, .long 33554431, .long 1082401, .long 17318416]), .inl (3, .inl (upd (fun _ => 0) 1 1)), .inr (2, [.ref 1, .ref 4, .ref 5, .int 0]), .inl (864, .inr (.inl (fun _ => 0))), .inl (3, .inl (fun _ => 0)), .inr (8, [.ref 1, .ref 3, .ref 7, .int 0, .int 0]), .inl (0, .inl (fun _ => 0)), .inr (6, [.ref 9, .int 0, .long 0, .long 0]), .inl (30, .inr (.inl (fun _ => 0))), .inr (7, [.ref 1, .ref 3, .ref 6, .ref 8, .ref 11, .ref 12]), .inl (3, .inr (.inl (fun _ => 0))), .inl (3, .inr (.inl (fun _ => 0))), .inr (4, [.ref 1, .ref 6, .ref 8, .ref 10, .ref 14, .ref 17, .ref 18, .ref 19, .int 0, .int 0]), .inr (10, [.ref 15, .ref 16, .int 0]), .inl (36, .inl (fun _ => 0)), .inl (36, .inl (fun _ => 0)), .inl (0, .inr (.inl (fun _ => 0))), .inl (0, .inr (.inl (fun _ => 0))), .inl (0, .inr (.inl (fun _ => 0))), .inr (5, [.ref 6, .ref 13, .ref 21, .int 0, .int 0, .int 0, .int 0]), .inl (1296, .inl (fun _ => 0)), .inr (0, [.ref 1, .ref 3, .ref 6, .ref 23, .ref 26, .ref 27, .ref 28, .ref 29, .int 0, .ref 30, .int 0, .int (-1)]), .inr (10, [.ref 24, .ref 25, .int 0]), .inl (36, .inl (fun _ => 0)), .inl (36, .inl (fun _ => 0)), .inl (0, .inl (fun _ => 0)), .inl (400, .inl (fun _ => 0)), .inl (400, .inl (fun _ => 0)), .inl (400, .inr (.inl (fun _ => 0))), .inl (36, .inl (fun _ => 0)), .inr (3, [.ref 3, .ref 6, .ref 8, .ref 13, .int 0, .int 0]), .inr (1, [.ref 1, .ref 6, .ref 33, .ref 34]), .inl (12, .inl (upd (upd (upd (upd (upd (upd (upd (upd (upd (upd (upd (upd (fun _ => 0) 0 (-1)) 1 (-1)) 2 (-1)) 3 (-1)) 4 (-1)) 5 (-1)) 6 (-1)) 7 (-1)) 8 (-1)) 9 (-1)) 10 (-1)) 11 (-1))), .inl (64, .inr (.inl (fun _ => 0))), .inr (12, [.int 5, .int 5, .int 0, .int 0, .ref 36, .ref 37, .int 0, .int 1, .int 0, .int 0, .int 0, .ref 38, .ref 39, .ref 40, .int 0, .ref 41, .int 0, .ref 42, .ref 43, .ref 44, .ref 45, .ref 46, .ref 47, .ref 48, .int 0, .ref 49, .ref 50, .ref 51, .ref 52, .ref 53, .ref 54, .ref 55, .ref 56, .ref 57, .ref 58, .ref 59, .int 0, .ref 60, .ref 61, .ref 62, .ref 63, .ref 64]), .inl (3, .inl (fun _ => 0)), .inl (3, .inl (fun _ => 0)), .inl (3, .inl (fun _ => 0)), .inl (900, .inr (.inl (fun _ => 0))), .inl (900, .inr (.inl (fun _ => 0))), .inl (30003, .inl (fun _ => 0)), .inl (30, .inl (fun _ => 0)), .inl (30, .inl (fun _ => 0)), .inl (30, .inl (fun _ => 0)), .inl (3, .inr (.inl (fun _ => 0))), .inl (3, .inr (.inl (fun _ => 0))), .inl (3, .inr (.inl (fun _ => 0))), .inl (31, .inl (fun _ => 0)), .inl (10001, .inl (fun _ => 0)), .inl (30003, .inr (.inl (fun _ => 0))), .inl (30003, .inr (.inl (fun _ => 0))), .inl (10001, .inr (.inl (fun _ => 0))), .inl (4, .inl (fun _ => 0)), .inl (1210, .inl (fun _ => 0)), .inl (1210, .inl (fun _ => 0)), .inl (1210, .inr (.inl (fun _ => 0))), .inl (401, .inl (fun _ => 0)), .inl (401, .inl (fun _ => 0)), .inl (401, .inl (fun _ => 0)), .inl (40, .inl (fun _ => 0)), .inl (12, .inl (upd (upd (upd (upd (upd (upd (fun _ => 0) 0 (-1)) 1 (-1)) 2 (-1)) 3 (-1)) 4 (-1)) 5 (-1))), .inl (401, .inl (fun _ => 0)), .inl (401, .inl (fun _ => 0)), .inl (401, .inl (fun _ => 0))]
noncomputable abbrev rw_h63 : ez_H := [.inr (11, [.ref 1, .ref 3, .ref 6, .ref 8, .ref 10, .ref 13, .ref 20, .ref 22, .ref 31, .ref 32]), .inr (9, [.ref 2, .int 0, .int 0, .int 5, .int 5, .int 0, .int 25, .long 33554431, .long 1082401, .long 17318416]), .inl (3, .inl (upd (fun _ => 0) 1 1)), .inr (2, [.ref 1, .ref 4, .ref 5, .int 0]), .inl (864, .inr (.inl (fun _ => 0))), .inl (3, .inl (fun _ => 0)), .inr (8, [.ref 1, .ref 3, .ref 7, .int 0, .int 0]), .inl (0, .inl (fun _ => 0)), .inr (6, [.ref 9, .int 0, .long 0, .long 0]), .inl (30, .inr (.inl (fun _ => 0))), .inr (7, [.ref 1, .ref 3, .ref 6, .ref 8, .ref 11, .ref 12]), .inl (3, .inr (.inl (fun _ => 0))), .inl (3, .inr (.inl (fun _ => 0))), .inr (4, [.ref 1, .ref 6, .ref 8, .ref 10, .ref 14, .ref 17, .ref 18, .ref 19, .int 0, .int 0]), .inr (10, [.ref 15, .ref 16, .int 0]), .inl (36, .inl (fun _ => 0)), .inl (36, .inl (fun _ => 0)), .inl (0, .inr (.inl (fun _ => 0))), .inl (0, .inr (.inl (fun _ => 0))), .inl (0, .inr (.inl (fun _ => 0))), .inr (5, [.ref 6, .ref 13, .ref 21, .int 0, .int 0, .int 0, .int 0]), .inl (1296, .inl (fun _ => 0)), .inr (0, [.ref 1, .ref 3, .ref 6, .ref 23, .ref 26, .ref 27, .ref 28, .ref 29, .int 0, .ref 30, .int 0, .int (-1)]), .inr (10, [.ref 24, .ref 25, .int 0]), .inl (36, .inl (fun _ => 0)), .inl (36, .inl (fun _ => 0)), .inl (0, .inl (fun _ => 0)), .inl (400, .inl (fun _ => 0)), .inl (400, .inl (fun _ => 0)), .inl (400, .inr (.inl (fun _ => 0))), .inl (36, .inl (fun _ => 0)), .inr (3, [.ref 3, .ref 6, .ref 8, .ref 13, .int 0, .int 0]), .inr (1, [.ref 1, .ref 6, .ref 33, .ref 34]), .inl (12, .inl (upd (upd (upd (upd (upd (upd (upd (upd (upd (upd (upd (upd (fun _ => 0) 0 (-1)) 1 (-1)) 2 (-1)) 3 (-1)) 4 (-1)) 5 (-1)) 6 (-1)) 7 (-1)) 8 (-1)) 9 (-1)) 10 (-1)) 11 (-1))), .inl (64, .inr (.inl (fun _ => 0))), .inr (12, [.int 5, .int 5, .int 0, .int 0, .ref 36, .ref 37, .int 0, .int 1, .int 0, .int 0, .int 0, .ref 38, .ref 39, .ref 40, .int 0, .ref 41, .int 0, .ref 42, .ref 43, .ref 44, .ref 45, .ref 46, .ref 47, .ref 48, .int 0, .ref 49, .ref 50, .ref 51, .ref 52, .ref 53, .ref 54, .ref 55, .ref 56, .ref 57, .ref 58, .ref 59, .int 0, .ref 60, .ref 61, .ref 62, .ref 63, .ref 64]), .inl (3, .inl (fun _ => 0)), .inl (3, .inl (fun _ => 0)), .inl (3, .inl (fun _ => 0)), .inl (900, .inr (.inl (fun _ => 0))), .inl (900, .inr (.inl (fun _ => 0))), .inl (30003, .inl (fun _ => 0)), .inl (30, .inl (fun _ => 0)), .inl (30, .inl (fun _ => 0)), .inl (30, .inl (fun _ => 0)), .inl (3, .inr (.inl (fun _ => 0))), .inl (3, .inr (.inl (fun _ => 0))), .inl (3, .inr (.inl (fun _ => 0))), .inl (31, .inl (fun _ => 0)), .inl (10001, .inl (fun _ => 0)), .inl (30003, .inr (.inl (fun _ => 0))), .inl (30003, .inr (.inl (fun _ => 0))), .inl (10001, .inr (.inl (fun _ => 0))), .inl (4, .inl (fun _ => 0)), .inl (1210, .inl (fun _ => 0)), .inl (1210, .inl (fun _ => 0)), .inl (1210, .inr (.inl (fun _ => 0))), .inl (401, .inl (fun _ => 0)), .inl (401, .inl (fun _ => 0)), .inl (401, .inl (fun _ => 0)), .inl (40, .inl (fun _ => 0)), .inl (12, .inl (upd (upd (upd (upd (upd (upd (upd (upd (fun _ => 0) 0 (-1)) 1 (-1)) 2 (-1)) 3 (-1)) 4 (-1)) 5 (-1)) 6 (-1)) 7 (-1))), .inl (401, .inl (fun _ => 0)), .inl (401, .inl (fun _ => 0)), .inl (401, .inl (fun _ => 0))]
noncomputable abbrev rw_h64 : ez_H := [.inr (11, [.ref 1, .ref 3, .ref 6, .ref 8, .ref 10, .ref 13, .ref 20, .ref 22, .ref 31, .ref 32]), .inr (9, [.ref 2, .int 0, .int 0, .int 5, .int 5, .int 0, .int 25, .long 33554431, .long 1082401, .long 17318416]), .inl (3, .inl (upd (fun _ => 0) 1 1)), .inr (2, [.ref 1, .ref 4, .ref 5, .int 0]), .inl (864, .inr (.inl (fun _ => 0))), .inl (3, .inl (fun _ => 0)), .inr (8, [.ref 1, .ref 3, .ref 7, .int 0, .int 0]), .inl (0, .inl (fun _ => 0)), .inr (6, [.ref 9, .int 0, .long 0, .long 0]), .inl (30, .inr (.inl (fun _ => 0))), .inr (7, [.ref 1, .ref 3, .ref 6, .ref 8, .ref 11, .ref 12]), .inl (3, .inr (.inl (fun _ => 0))), .inl (3, .inr (.inl (fun _ => 0))), .inr (4, [.ref 1, .ref 6, .ref 8, .ref 10, .ref 14, .ref 17, .ref 18, .ref 19, .int 0, .int 0]), .inr (10, [.ref 15, .ref 16, .int 0]), .inl (36, .inl (fun _ => 0)), .inl (36, .inl (fun _ => 0)), .inl (0, .inr (.inl (fun _ => 0))), .inl (0, .inr (.inl (fun _ => 0))), .inl (0, .inr (.inl (fun _ => 0))), .inr (5, [.ref 6, .ref 13, .ref 21, .int 0, .int 0, .int 0, .int 0]), .inl (1296, .inl (fun _ => 0)), .inr (0, [.ref 1, .ref 3, .ref 6, .ref 23, .ref 26, .ref 27, .ref 28, .ref 29, .int 0, .ref 30, .int 0, .int (-1)]), .inr (10, [.ref 24, .ref 25, .int 0]), .inl (36, .inl (fun _ => 0)), .inl (36, .inl (fun _ => 0)), .inl (0, .inl (fun _ => 0)), .inl (400, .inl (fun _ => 0)), .inl (400, .inl (fun _ => 0)), .inl (400, .inr (.inl (fun _ => 0))), .inl (36, .inl (fun _ => 0)), .inr (3, [.ref 3, .ref 6, .ref 8, .ref 13, .int 0, .int 0]), .inr (1, [.ref 1, .ref 6, .ref 33, .ref 34]), .inl (12, .inl (upd (upd (upd (upd (upd (upd (upd (upd (upd (upd (upd (upd (fun _ => 0) 0 (-1)) 1 (-1)) 2 (-1)) 3 (-1)) 4 (-1)) 5 (-1)) 6 (-1)) 7 (-1)) 8 (-1)) 9 (-1)) 10 (-1)) 11 (-1))), .inl (64, .inr (.inl (fun _ => 0))), .inr (12, [.int 5, .int 5, .int 0, .int 0, .ref 36, .ref 37, .int 0, .int 1, .int 0, .int 0, .int 0, .ref 38, .ref 39, .ref 40, .int 0, .ref 41, .int 0, .ref 42, .ref 43, .ref 44, .ref 45, .ref 46, .ref 47, .ref 48, .int 0, .ref 49, .ref 50, .ref 51, .ref 52, .ref 53, .ref 54, .ref 55, .ref 56, .ref 57, .ref 58, .ref 59, .int 0, .ref 60, .ref 61, .ref 62, .ref 63, .ref 64]), .inl (3, .inl (fun _ => 0)), .inl (3, .inl (fun _ => 0)), .inl (3, .inl (fun _ => 0)), .inl (900, .inr (.inl (fun _ => 0))), .inl (900, .inr (.inl (fun _ => 0))), .inl (30003, .inl (fun _ => 0)), .inl (30, .inl (fun _ => 0)), .inl (30, .inl (fun _ => 0)), .inl (30, .inl (fun _ => 0)), .inl (3, .inr (.inl (fun _ => 0))), .inl (3, .inr (.inl (fun _ => 0))), .inl (3, .inr (.inl (fun _ => 0))), .inl (31, .inl (fun _ => 0)), .inl (10001, .inl (fun _ => 0)), .inl (30003, .inr (.inl (fun _ => 0))), .inl (30003, .inr (.inl (fun _ => 0))), .inl (10001, .inr (.inl (fun _ => 0))), .inl (4, .inl (fun _ => 0)), .inl (1210, .inl (fun _ => 0)), .inl (1210, .inl (fun _ => 0)), .inl (1210, .inr (.inl (fun _ => 0))), .inl (401, .inl (fun _ => 0)), .inl (401, .inl (fun _ => 0)), .inl (401, .inl (fun _ => 0)), .inl (40, .inl (fun _ => 0)), .inl (12, .inl (upd (upd (upd (upd (upd (upd (upd (upd (upd (fun _ => 0) 0 (-1)) 1 (-1)) 2 (-1)) 3 (-1)) 4 (-1)) 5 (-1)) 6 (-1)) 7 (-1)) 8 (-1))), .inl (401, .inl (fun _ => 0)), .inl (401, .inl (fun _ => 0)), .inl (401, .inl (fun _ => 0))]
noncomputable abbrev rw_h65 : ez_H := [.inr (11, [.ref 1, .ref 3, .ref 6, .ref 8, .ref 10, .ref 13, .ref 20, .ref 22, .ref 31, .ref 32]), .inr (9, [.ref 2, .int 0, .int 0, .int 5, .int 5, .int 0, .int 25, .long 33554431, .long 1082401, .long 17318416]), .inl (3, .inl (upd (fun _ => 0) 1 1)), .inr (2, [.ref 1, .ref 4, .ref 5, .int 0]), .inl (864, .inr (.inl (fun _ => 0))), .inl (3, .inl (fun _ => 0)), .inr (8, [.ref 1, .ref 3, .ref 7, .int 0, .int 0]), .inl (0, .inl (fun _ => 0)), .inr (6, [.ref 9, .int 0, .long 0, .long 0]), .inl (30, .inr (.inl (fun _ => 0))), .inr (7, [.ref 1, .ref 3, .ref 6, .ref 8, .ref 11, .ref 12]), .inl (3, .inr (.inl (fun _ => 0))), .inl (3, .inr (.inl (fun _ => 0))), .inr (4, [.ref 1, .ref 6, .ref 8, .ref 10, .ref 14, .ref 17, .ref 18, .ref 19, .int 0, .int 0]), .inr (10, [.ref 15, .ref 16, .int 0]), .inl (36, .inl (fun _ => 0)), .inl (36, .inl (fun _ => 0)), .inl (0, .inr (.inl (fun _ => 0))), .inl (0, .inr (.inl (fun _ => 0))), .inl (0, .inr (.inl (fun _ => 0))), .inr (5, [.ref 6, .ref 13, .ref 21, .int 0, .int 0, .int 0, .int 0]), .inl (1296, .inl (fun _ => 0)), .inr (0, [.ref 1, .ref 3, .ref 6, .ref 23, .ref 26, .ref 27, .ref 28, .ref 29, .int 0, .ref 30, .int 0, .int (-1)]), .inr (10, [.ref 24, .ref 25, .int 0]), .inl (36, .inl (fun _ => 0)), .inl (36, .inl (fun _ => 0)), .inl (0, .inl (fun _ => 0)), .inl (400, .inl (fun _ => 0)), .inl (400, .inl (fun _ => 0)), .inl (400, .inr (.inl (fun _ => 0))), .inl (36, .inl (fun _ => 0)), .inr (3, [.ref 3, .ref 6, .ref 8, .ref 13, .int 0, .int 0]), .inr (1, [.ref 1, .ref 6, .ref 33, .ref 34]), .inl (12, .inl (upd (upd (upd (upd (upd (upd (upd (upd (upd (upd (upd (upd (fun _ => 0) 0 (-1)) 1 (-1)) 2 (-1)) 3 (-1)) 4 (-1)) 5 (-1)) 6 (-1)) 7 (-1)) 8 (-1)) 9 (-1)) 10 (-1)) 11 (-1))), .inl (64, .inr (.inl (fun _ => 0))), .inr (12, [.int 5, .int 5, .int 0, .int 0, .ref 36, .ref 37, .int 0, .int 1, .int 0, .int 0, .int 0, .ref 38, .ref 39, .ref 40, .int 0, .ref 41, .int 0, .ref 42, .ref 43, .ref 44, .ref 45, .ref 46, .ref 47, .ref 48, .int 0, .ref 49, .ref 50, .ref 51, .ref 52, .ref 53, .ref 54, .ref 55, .ref 56, .ref 57, .ref 58, .ref 59, .int 0, .ref 60, .ref 61, .ref 62, .ref 63, .ref 64]), .inl (3, .inl (fun _ => 0)), .inl (3, .inl (fun _ => 0)), .inl (3, .inl (fun _ => 0)), .inl (900, .inr (.inl (fun _ => 0))), .inl (900, .inr (.inl (fun _ => 0))), .inl (30003, .inl (fun _ => 0)), .inl (30, .inl (fun _ => 0)), .inl (30, .inl (fun _ => 0)), .inl (30, .inl (fun _ => 0)), .inl (3, .inr (.inl (fun _ => 0))), .inl (3, .inr (.inl (fun _ => 0))), .inl (3, .inr (.inl (fun _ => 0))), .inl (31, .inl (fun _ => 0)), .inl (10001, .inl (fun _ => 0)), .inl (30003, .inr (.inl (fun _ => 0))), .inl (30003, .inr (.inl (fun _ => 0))), .inl (10001, .inr (.inl (fun _ => 0))), .inl (4, .inl (fun _ => 0)), .inl (1210, .inl (fun _ => 0)), .inl (1210, .inl (fun _ => 0)), .inl (1210, .inr (.inl (fun _ => 0))), .inl (401, .inl (fun _ => 0)), .inl (401, .inl (fun _ => 0)), .inl (401, .inl (fun _ => 0)), .inl (40, .inl (fun _ => 0)), .inl (12, .inl (upd (upd (upd (upd (upd (upd (upd (upd (upd (upd (upd (fun _ => 0) 0 (-1)) 1 (-1)) 2 (-1)) 3 (-1)) 4 (-1)) 5 (-1)) 6 (-1)) 7 (-1)) 8 (-1)) 9 (-1)) 10 (-1))), .inl (401, .inl (fun _ => 0)), .inl (401, .inl (fun _ => 0)), .inl (401, .inl (fun _ => 0))]
noncomputable abbrev rw_h66 : ez_H := [.inr (11, [.ref 1, .ref 3, .ref 6, .ref 8, .ref 10, .ref 13, .ref 20, .ref 22, .ref 31, .ref 32]), .inr (9, [.ref 2, .int 0, .int 0, .int 5, .int 5, .int 0, .int 25, .long 33554431, .long 1082401, .long 17318416]), .inl (3, .inl (upd (fun _ => 0) 1 1)), .inr (2, [.ref 1, .ref 4, .ref 5, .int 0]), .inl (864, .inr (.inl (fun _ => 0))), .inl (3, .inl (fun _ => 0)), .inr (8, [.ref 1, .ref 3, .ref 7, .int 0, .int 0]), .inl (0, .inl (fun _ => 0)), .inr (6, [.ref 9, .int 0, .long 0, .long 0]), .inl (30, .inr (.inl (fun _ => 0))), .inr (7, [.ref 1, .ref 3, .ref 6, .ref 8, .ref 11, .ref 12]), .inl (3, .inr (.inl (fun _ => 0))), .inl (3, .inr (.inl (fun _ => 0))), .inr (4, [.ref 1, .ref 6, .ref 8, .ref 10, .ref 14, .ref 17, .ref 18, .ref 19, .int 0, .int 0]), .inr (10, [.ref 15, .ref 16, .int 0]), .inl (36, .inl (fun _ => 0)), .inl (36, .inl (fun _ => 0)), .inl (0, .inr (.inl (fun _ => 0))), .inl (0, .inr (.inl (fun _ => 0))), .inl (0, .inr (.inl (fun _ => 0))), .inr (5, [.ref 6, .ref 13, .ref 21, .int 0, .int 0, .int 0, .int 0]), .inl (1296, .inl (fun _ => 0)), .inr (0, [.ref 1, .ref 3, .ref 6, .ref 23, .ref 26, .ref 27, .ref 28, .ref 29, .int 0, .ref 30, .int 0, .int (-1)]), .inr (10, [.ref 24, .ref 25, .int 0]), .inl (36, .inl (fun _ => 0)), .inl (36, .inl (fun _ => 0)), .inl (0, .inl (fun _ => 0)), .inl (400, .inl (fun _ => 0)), .inl (400, .inl (fun _ => 0)), .inl (400, .inr (.inl (fun _ => 0))), .inl (36, .inl (fun _ => 0)), .inr (3, [.ref 3, .ref 6, .ref 8, .ref 13, .int 0, .int 0]), .inr (1, [.ref 1, .ref 6, .ref 33, .ref 34]), .inl (12, .inl (upd (upd (upd (upd (upd (upd (upd (upd (upd (upd (upd (upd (fun _ => 0) 0 (-1)) 1 (-1)) 2 (-1)) 3 (-1)) 4 (-1)) 5 (-1)) 6 (-1)) 7 (-1)) 8 (-1)) 9 (-1)) 10 (-1)) 11 (-1))), .inl (64, .inr (.inl (fun _ => 0))), .inr (12, [.int 5, .int 5, .int 0, .int 0, .ref 36, .ref 37, .int 0, .int 1, .int 0, .int 0, .int 0, .ref 38, .ref 39, .ref 40, .int 0, .ref 41, .int 0, .ref 42, .ref 43, .ref 44, .ref 45, .ref 46, .ref 47, .ref 48, .int 0, .ref 49, .ref 50, .ref 51, .ref 52, .ref 53, .ref 54, .ref 55, .ref 56, .ref 57, .ref 58, .ref 59, .int 0, .ref 60, .ref 61, .ref 62, .ref 63, .ref 64]), .inl (3, .inl (fun _ => 0)), .inl (3, .inl (fun _ => 0)), .inl (3, .inl (fun _ => 0)), .inl (900, .inr (.inl (fun _ => 0))), .inl (900, .inr (.inl (fun _ => 0))), .inl (30003, .inl (fun _ => 0)), .inl (30, .inl (fun _ => 0)), .inl (30, .inl (fun _ => 0)), .inl (30, .inl (fun _ => 0)), .inl (3, .inr (.inl (fun _ => 0))), .inl (3, .inr (.inl (fun _ => 0))), .inl (3, .inr (.inl (fun _ => 0))), .inl (31, .inl (fun _ => 0)), .inl (10001, .inl (fun _ => 0)), .inl (30003, .inr (.inl (fun _ => 0))), .inl (30003, .inr (.inl (fun _ => 0))), .inl (10001, .inr (.inl (fun _ => 0))), .inl (4, .inl (fun _ => 0)), .inl (1210, .inl (fun _ => 0)), .inl (1210, .inl (fun _ => 0)), .inl (1210, .inr (.inl (fun _ => 0))), .inl (401, .inl (fun _ => 0)), .inl (401, .inl (fun _ => 0)), .inl (401, .inl (fun _ => 0)), .inl (40, .inl (fun _ => 0)), .inl (12, .inl (upd (upd (upd (upd (upd (upd (upd (upd (upd (upd (upd (upd (fun _ => 0) 0 (-1)) 1 (-1)) 2 (-1)) 3 (-1)) 4 (-1)) 5 (-1)) 6 (-1)) 7 (-1)) 8 (-1)) 9 (-1)) 10 (-1)) 11 (-1))), .inl (401, .inl (fun _ => 0)), .inl (401, .inl (fun _ => 0)), .inl (401, .inl (fun _ => 0))]
set_option maxRecDepth 100000 in
theorem rw_4_put_r1 (X : ez_X) (cz kz : Nat) : ∀ G : ez_F, fx_up X 11 G 38 0 [.ref 2, .int 1, .int 1] [] rw_h3 cz kz = some (none, rw_h4, cz + 0, kz + 0) := by
  intro G
  rfl
theorem rw_4_put (X : ez_X) : ev_W X 38 0 (ez_lay [.ref 2, .int 1, .int 1]) [] rw_h3 0 0 (fun r h1 c1 k1 => r = none ∧ h1 = rw_h4 ∧ c1 = 0 ∧ k1 = 0) := by
  exact ev_ret (rw_4_put_r1 X _ _) ⟨rfl, rfl, rfl, rfl⟩
set_option maxRecDepth 100000 in
theorem rw_5_become_r1 (X : ez_X) (cz kz : Nat) : ∀ G : ez_F, fx_up X 16 G 145 0 [.ref 1, .int 5, .int 5, .int 0] [] rw_h4 cz kz = G 145 24 [.ref 1, .int 5, .int 5, .int 0] [.int 0, .ref 1] rw_h5 (cz + 0) (kz + 0) := by
  intro G
  rfl
set_option maxRecDepth 100000 in
theorem rw_5_become_r2 (X : ez_X) (cz kz : Nat) : ∀ G : ez_F, fx_up X 16 G 145 24 [.ref 1, .int 5, .int 5, .int 0] [.int 0, .ref 1] rw_h5 cz kz = G 145 50 [.ref 1, .int 5, .int 5, .int 0] [.int 0] rw_h6 (cz + 0) (kz + 0) := by
  intro G
  rfl
set_option maxRecDepth 100000 in
theorem rw_5_become_r3 (X : ez_X) (cz kz : Nat) : ∀ G : ez_F, fx_up X 16 G 145 50 [.ref 1, .int 5, .int 5, .int 0] [.int 0] rw_h6 cz kz = G 145 52 [.ref 1, .int 5, .int 5, .int 0, .int 1] [] rw_h7 (cz + 0) (kz + 0) := by
  intro G
  rfl
set_option maxRecDepth 100000 in
theorem rw_5_become_r4 (X : ez_X) (cz kz : Nat) : ∀ G : ez_F, fx_up X 16 G 145 52 [.ref 1, .int 5, .int 5, .int 0, .int 1] [] rw_h7 cz kz = G 145 54 [.ref 1, .int 5, .int 5, .int 0, .int 2] [.int 2] rw_h8 (cz + 0) (kz + 0) := by
  intro G
  rfl
set_option maxRecDepth 100000 in
theorem rw_5_become_r5 (X : ez_X) (cz kz : Nat) : ∀ G : ez_F, fx_up X 16 G 145 54 [.ref 1, .int 5, .int 5, .int 0, .int 2] [.int 2] rw_h8 cz kz = G 145 55 [.ref 1, .int 5, .int 5, .int 0, .int 3] [.int 5, .int 3] rw_h9 (cz + 0) (kz + 0) := by
  intro G
  rfl
set_option maxRecDepth 100000 in
theorem rw_5_become_r6 (X : ez_X) (cz kz : Nat) : ∀ G : ez_F, fx_up X 16 G 145 55 [.ref 1, .int 5, .int 5, .int 0, .int 3] [.int 5, .int 3] rw_h9 cz kz = G 145 58 [.ref 1, .int 5, .int 5, .int 0, .int 4] [] rw_h10 (cz + 0) (kz + 0) := by
  intro G
  rfl
set_option maxRecDepth 100000 in
theorem rw_5_become_r7 (X : ez_X) (cz kz : Nat) : ∀ G : ez_F, fx_up X 16 G 145 58 [.ref 1, .int 5, .int 5, .int 0, .int 4] [] rw_h10 cz kz = G 145 80 [.ref 1, .int 5, .int 5, .int 0, .int 5] [.ref 1] rw_h11 (cz + 0) (kz + 0) := by
  intro G
  rfl
set_option maxRecDepth 100000 in
theorem rw_5_become_r8 (X : ez_X) (cz kz : Nat) : ∀ G : ez_F, fx_up X 8 G 145 80 [.ref 1, .int 5, .int 5, .int 0, .int 5] [.ref 1] rw_h11 cz kz = some (none, rw_h12, cz + 0, kz + 0) := by
  intro G
  rfl
theorem rw_5_become (X : ez_X) : ev_W X 145 0 (ez_lay [.ref 1, .int 5, .int 5, .int 0]) [] rw_h4 0 0 (fun r h1 c1 k1 => r = none ∧ h1 = rw_h12 ∧ c1 = 0 ∧ k1 = 0) := by
  refine ev_seg (rw_5_become_r1 X _ _) ?_
  refine ev_seg (rw_5_become_r2 X _ _) ?_
  refine ev_seg (rw_5_become_r3 X _ _) ?_
  refine ev_seg (rw_5_become_r4 X _ _) ?_
  refine ev_seg (rw_5_become_r5 X _ _) ?_
  refine ev_seg (rw_5_become_r6 X _ _) ?_
  refine ev_seg (rw_5_become_r7 X _ _) ?_
  exact ev_ret (rw_5_become_r8 X _ _) ⟨rfl, rfl, rfl, rfl⟩
set_option maxRecDepth 100000 in
theorem rw_3_init_r1 (X : ez_X) (cz kz : Nat) : ∀ G : ez_F, fx_up X 11 G 143 0 [.ref 1] [] rw_h2 cz kz = ev_C G 38 [.ref 2, .int 1, .int 1] rw_h3 fun r h1 c1 k1 => G 143 20 [.ref 1] (r.toList ++ []) h1 (cz + 1 + c1) (kz + 3 + k1) := by
  intro G
  rfl
set_option maxRecDepth 100000 in
theorem rw_3_init_r2 (X : ez_X) (cz kz : Nat) : ∀ G : ez_F, fx_up X 5 G 143 20 [.ref 1] [] rw_h4 cz kz = ev_C G 145 [.ref 1, .int 5, .int 5, .int 0] rw_h4 fun r h1 c1 k1 => G 143 27 [.ref 1] (r.toList ++ []) h1 (cz + 0 + c1) (kz + 0 + k1) := by
  intro G
  rfl
set_option maxRecDepth 100000 in
theorem rw_3_init_r3 (X : ez_X) (cz kz : Nat) : ∀ G : ez_F, fx_up X 1 G 143 27 [.ref 1] [] rw_h12 cz kz = some (none, rw_h12, cz + 0, kz + 0) := by
  intro G
  rfl
theorem rw_3_init (X : ez_X) : ev_W X 143 0 (ez_lay [.ref 1]) [] rw_h2 0 0 (fun r h1 c1 k1 => r = none ∧ h1 = rw_h12 ∧ c1 = 1 ∧ k1 = 3) := by
  refine ev_call (rw_3_init_r1 X _ _) (rw_4_put X) ?_
  rintro _ _ _ _ ⟨rfl, rfl, rfl, rfl⟩
  refine ev_call (rw_3_init_r2 X _ _) (rw_5_become X) ?_
  rintro _ _ _ _ ⟨rfl, rfl, rfl, rfl⟩
  exact ev_ret (rw_3_init_r3 X _ _) ⟨rfl, rfl, rfl, rfl⟩
set_option maxRecDepth 100000 in
theorem rw_6_init_r1 (X : ez_X) (cz kz : Nat) : ∀ G : ez_F, fx_up X 14 G 84 0 [.ref 3, .ref 1] [] rw_h13 cz kz = some (none, rw_h14, cz + 2, kz + 867) := by
  intro G
  rfl
theorem rw_6_init (X : ez_X) : ev_W X 84 0 (ez_lay [.ref 3, .ref 1]) [] rw_h13 0 0 (fun r h1 c1 k1 => r = none ∧ h1 = rw_h14 ∧ c1 = 2 ∧ k1 = 867) := by
  exact ev_ret (rw_6_init_r1 X _ _) ⟨rfl, rfl, rfl, rfl⟩
set_option maxRecDepth 100000 in
theorem rw_7_init_r1 (X : ez_X) (cz kz : Nat) : ∀ G : ez_F, fx_up X 13 G 136 0 [.ref 6, .ref 1, .ref 3] [] rw_h15 cz kz = some (none, rw_h16, cz + 1, kz + 0) := by
  intro G
  rfl
theorem rw_7_init (X : ez_X) : ev_W X 136 0 (ez_lay [.ref 6, .ref 1, .ref 3]) [] rw_h15 0 0 (fun r h1 c1 k1 => r = none ∧ h1 = rw_h16 ∧ c1 = 1 ∧ k1 = 0) := by
  exact ev_ret (rw_7_init_r1 X _ _) ⟨rfl, rfl, rfl, rfl⟩
set_option maxRecDepth 100000 in
theorem rw_8_init_r1 (X : ez_X) (cz kz : Nat) : ∀ G : ez_F, fx_up X 7 G 120 0 [.ref 8] [] rw_h17 cz kz = some (none, rw_h18, cz + 1, kz + 30) := by
  intro G
  rfl
theorem rw_8_init (X : ez_X) : ev_W X 120 0 (ez_lay [.ref 8]) [] rw_h17 0 0 (fun r h1 c1 k1 => r = none ∧ h1 = rw_h18 ∧ c1 = 1 ∧ k1 = 30) := by
  exact ev_ret (rw_8_init_r1 X _ _) ⟨rfl, rfl, rfl, rfl⟩
set_option maxRecDepth 100000 in
theorem rw_9_init_r1 (X : ez_X) (cz kz : Nat) : ∀ G : ez_F, fx_up X 16 G 128 0 [.ref 10, .ref 1, .ref 3, .ref 6, .ref 8] [] rw_h19 cz kz = G 128 27 [.ref 10, .ref 1, .ref 3, .ref 6, .ref 8] [.int 3, .ref 10] rw_h20 (cz + 0) (kz + 0) := by
  intro G
  rfl
set_option maxRecDepth 100000 in
theorem rw_9_init_r2 (X : ez_X) (cz kz : Nat) : ∀ G : ez_F, fx_up X 7 G 128 27 [.ref 10, .ref 1, .ref 3, .ref 6, .ref 8] [.int 3, .ref 10] rw_h20 cz kz = some (none, rw_h21, cz + 2, kz + 6) := by
  intro G
  rfl
theorem rw_9_init (X : ez_X) : ev_W X 128 0 (ez_lay [.ref 10, .ref 1, .ref 3, .ref 6, .ref 8]) [] rw_h19 0 0 (fun r h1 c1 k1 => r = none ∧ h1 = rw_h21 ∧ c1 = 2 ∧ k1 = 6) := by
  refine ev_seg (rw_9_init_r1 X _ _) ?_
  exact ev_ret (rw_9_init_r2 X _ _) ⟨rfl, rfl, rfl, rfl⟩
set_option maxRecDepth 100000 in
theorem rw_11_init_r1 (X : ez_X) (cz kz : Nat) : ∀ G : ez_F, fx_up X 11 G 155 0 [.ref 14] [] rw_h23 cz kz = some (none, rw_h24, cz + 2, kz + 72) := by
  intro G
  rfl
theorem rw_11_init (X : ez_X) : ev_W X 155 0 (ez_lay [.ref 14]) [] rw_h23 0 0 (fun r h1 c1 k1 => r = none ∧ h1 = rw_h24 ∧ c1 = 2 ∧ k1 = 72) := by
  exact ev_ret (rw_11_init_r1 X _ _) ⟨rfl, rfl, rfl, rfl⟩
set_option maxRecDepth 100000 in
theorem rw_10_init_r1 (X : ez_X) (cz kz : Nat) : ∀ G : ez_F, fx_up X 16 G 104 0 [.ref 13, .ref 1, .ref 6, .ref 8, .ref 10] [] rw_h22 cz kz = G 104 29 [.ref 13, .ref 1, .ref 6, .ref 8, .ref 10] [.ref 14, .ref 13] rw_h23 (cz + 1) (kz + 3) := by
  intro G
  rfl
set_option maxRecDepth 100000 in
theorem rw_10_init_r2 (X : ez_X) (cz kz : Nat) : ∀ G : ez_F, fx_up X 2 G 104 29 [.ref 13, .ref 1, .ref 6, .ref 8, .ref 10] [.ref 14, .ref 13] rw_h23 cz kz = ev_C G 155 [.ref 14] rw_h23 fun r h1 c1 k1 => G 104 33 [.ref 13, .ref 1, .ref 6, .ref 8, .ref 10] (r.toList ++ [.ref 14, .ref 13]) h1 (cz + 0 + c1) (kz + 0 + k1) := by
  intro G
  rfl
set_option maxRecDepth 100000 in
theorem rw_10_init_r3 (X : ez_X) (cz kz : Nat) : ∀ G : ez_F, fx_up X 14 G 104 33 [.ref 13, .ref 1, .ref 6, .ref 8, .ref 10] [.ref 14, .ref 13] rw_h24 cz kz = some (none, rw_h25, cz + 3, kz + 0) := by
  intro G
  rfl
theorem rw_10_init (X : ez_X) : ev_W X 104 0 (ez_lay [.ref 13, .ref 1, .ref 6, .ref 8, .ref 10]) [] rw_h22 0 0 (fun r h1 c1 k1 => r = none ∧ h1 = rw_h25 ∧ c1 = 6 ∧ k1 = 75) := by
  refine ev_seg (rw_10_init_r1 X _ _) ?_
  refine ev_call (rw_10_init_r2 X _ _) (rw_11_init X) ?_
  rintro _ _ _ _ ⟨rfl, rfl, rfl, rfl⟩
  exact ev_ret (rw_10_init_r3 X _ _) ⟨rfl, rfl, rfl, rfl⟩
set_option maxRecDepth 100000 in
theorem rw_12_init_r1 (X : ez_X) (cz kz : Nat) : ∀ G : ez_F, fx_up X 13 G 114 0 [.ref 20, .ref 6, .ref 13] [] rw_h26 cz kz = some (none, rw_h27, cz + 1, kz + 1296) := by
  intro G
  rfl
theorem rw_12_init (X : ez_X) : ev_W X 114 0 (ez_lay [.ref 20, .ref 6, .ref 13]) [] rw_h26 0 0 (fun r h1 c1 k1 => r = none ∧ h1 = rw_h27 ∧ c1 = 1 ∧ k1 = 1296) := by
  exact ev_ret (rw_12_init_r1 X _ _) ⟨rfl, rfl, rfl, rfl⟩
set_option maxRecDepth 100000 in
theorem rw_14_init_r1 (X : ez_X) (cz kz : Nat) : ∀ G : ez_F, fx_up X 11 G 155 0 [.ref 23] [] rw_h29 cz kz = some (none, rw_h30, cz + 2, kz + 72) := by
  intro G
  rfl
theorem rw_14_init (X : ez_X) : ev_W X 155 0 (ez_lay [.ref 23]) [] rw_h29 0 0 (fun r h1 c1 k1 => r = none ∧ h1 = rw_h30 ∧ c1 = 2 ∧ k1 = 72) := by
  exact ev_ret (rw_14_init_r1 X _ _) ⟨rfl, rfl, rfl, rfl⟩
set_option maxRecDepth 100000 in
theorem rw_13_init_r1 (X : ez_X) (cz kz : Nat) : ∀ G : ez_F, fx_up X 15 G 56 0 [.ref 22, .ref 1, .ref 3, .ref 6] [] rw_h28 cz kz = ev_C G 155 [.ref 23] rw_h29 fun r h1 c1 k1 => G 56 27 [.ref 22, .ref 1, .ref 3, .ref 6] (r.toList ++ [.ref 23, .ref 22]) h1 (cz + 1 + c1) (kz + 3 + k1) := by
  intro G
  rfl
set_option maxRecDepth 100000 in
theorem rw_13_init_r2 (X : ez_X) (cz kz : Nat) : ∀ G : ez_F, fx_up X 16 G 56 27 [.ref 22, .ref 1, .ref 3, .ref 6] [.ref 23, .ref 22] rw_h30 cz kz = G 56 61 [.ref 22, .ref 1, .ref 3, .ref 6] [.ref 29, .ref 22] rw_h31 (cz + 4) (kz + 1200) := by
  intro G
  rfl
set_option maxRecDepth 100000 in
theorem rw_13_init_r3 (X : ez_X) (cz kz : Nat) : ∀ G : ez_F, fx_up X 9 G 56 61 [.ref 22, .ref 1, .ref 3, .ref 6] [.ref 29, .ref 22] rw_h31 cz kz = some (none, rw_h32, cz + 1, kz + 36) := by
  intro G
  rfl
theorem rw_13_init (X : ez_X) : ev_W X 56 0 (ez_lay [.ref 22, .ref 1, .ref 3, .ref 6]) [] rw_h28 0 0 (fun r h1 c1 k1 => r = none ∧ h1 = rw_h32 ∧ c1 = 8 ∧ k1 = 1311) := by
  refine ev_call (rw_13_init_r1 X _ _) (rw_14_init X) ?_
  rintro _ _ _ _ ⟨rfl, rfl, rfl, rfl⟩
  refine ev_seg (rw_13_init_r2 X _ _) ?_
  exact ev_ret (rw_13_init_r3 X _ _) ⟨rfl, rfl, rfl, rfl⟩
set_option maxRecDepth 100000 in
theorem rw_15_init_r1 (X : ez_X) (cz kz : Nat) : ∀ G : ez_F, fx_up X 15 G 95 0 [.ref 31, .ref 3, .ref 6, .ref 8, .ref 13] [] rw_h33 cz kz = some (none, rw_h34, cz + 0, kz + 0) := by
  intro G
  rfl
theorem rw_15_init (X : ez_X) : ev_W X 95 0 (ez_lay [.ref 31, .ref 3, .ref 6, .ref 8, .ref 13]) [] rw_h33 0 0 (fun r h1 c1 k1 => r = none ∧ h1 = rw_h34 ∧ c1 = 0 ∧ k1 = 0) := by
  exact ev_ret (rw_15_init_r1 X _ _) ⟨rfl, rfl, rfl, rfl⟩
set_option maxRecDepth 100000 in
theorem rw_18_put_r1 (X : ez_X) (cz kz : Nat) : ∀ G : ez_F, fx_up X 11 G 38 0 [.ref 33, .int 0, .int (-1)] [] rw_h36 cz kz = some (none, rw_h37, cz + 0, kz + 0) := by
  intro G
  rfl
theorem rw_18_put (X : ez_X) : ev_W X 38 0 (ez_lay [.ref 33, .int 0, .int (-1)]) [] rw_h36 0 0 (fun r h1 c1 k1 => r = none ∧ h1 = rw_h37 ∧ c1 = 0 ∧ k1 = 0) := by
  exact ev_ret (rw_18_put_r1 X _ _) ⟨rfl, rfl, rfl, rfl⟩
set_option maxRecDepth 100000 in
theorem rw_19_put_r1 (X : ez_X) (cz kz : Nat) : ∀ G : ez_F, fx_up X 11 G 38 0 [.ref 33, .int 1, .int (-1)] [] rw_h37 cz kz = some (none, rw_h38, cz + 0, kz + 0) := by
  intro G
  rfl
theorem rw_19_put (X : ez_X) : ev_W X 38 0 (ez_lay [.ref 33, .int 1, .int (-1)]) [] rw_h37 0 0 (fun r h1 c1 k1 => r = none ∧ h1 = rw_h38 ∧ c1 = 0 ∧ k1 = 0) := by
  exact ev_ret (rw_19_put_r1 X _ _) ⟨rfl, rfl, rfl, rfl⟩
set_option maxRecDepth 100000 in
theorem rw_20_put_r1 (X : ez_X) (cz kz : Nat) : ∀ G : ez_F, fx_up X 11 G 38 0 [.ref 33, .int 2, .int (-1)] [] rw_h38 cz kz = some (none, rw_h39, cz + 0, kz + 0) := by
  intro G
  rfl
theorem rw_20_put (X : ez_X) : ev_W X 38 0 (ez_lay [.ref 33, .int 2, .int (-1)]) [] rw_h38 0 0 (fun r h1 c1 k1 => r = none ∧ h1 = rw_h39 ∧ c1 = 0 ∧ k1 = 0) := by
  exact ev_ret (rw_20_put_r1 X _ _) ⟨rfl, rfl, rfl, rfl⟩
set_option maxRecDepth 100000 in
theorem rw_21_put_r1 (X : ez_X) (cz kz : Nat) : ∀ G : ez_F, fx_up X 11 G 38 0 [.ref 33, .int 3, .int (-1)] [] rw_h39 cz kz = some (none, rw_h40, cz + 0, kz + 0) := by
  intro G
  rfl
theorem rw_21_put (X : ez_X) : ev_W X 38 0 (ez_lay [.ref 33, .int 3, .int (-1)]) [] rw_h39 0 0 (fun r h1 c1 k1 => r = none ∧ h1 = rw_h40 ∧ c1 = 0 ∧ k1 = 0) := by
  exact ev_ret (rw_21_put_r1 X _ _) ⟨rfl, rfl, rfl, rfl⟩
set_option maxRecDepth 100000 in
theorem rw_22_put_r1 (X : ez_X) (cz kz : Nat) : ∀ G : ez_F, fx_up X 11 G 38 0 [.ref 33, .int 4, .int (-1)] [] rw_h40 cz kz = some (none, rw_h41, cz + 0, kz + 0) := by
  intro G
  rfl
theorem rw_22_put (X : ez_X) : ev_W X 38 0 (ez_lay [.ref 33, .int 4, .int (-1)]) [] rw_h40 0 0 (fun r h1 c1 k1 => r = none ∧ h1 = rw_h41 ∧ c1 = 0 ∧ k1 = 0) := by
  exact ev_ret (rw_22_put_r1 X _ _) ⟨rfl, rfl, rfl, rfl⟩
set_option maxRecDepth 100000 in
theorem rw_23_put_r1 (X : ez_X) (cz kz : Nat) : ∀ G : ez_F, fx_up X 11 G 38 0 [.ref 33, .int 5, .int (-1)] [] rw_h41 cz kz = some (none, rw_h42, cz + 0, kz + 0) := by
  intro G
  rfl
theorem rw_23_put (X : ez_X) : ev_W X 38 0 (ez_lay [.ref 33, .int 5, .int (-1)]) [] rw_h41 0 0 (fun r h1 c1 k1 => r = none ∧ h1 = rw_h42 ∧ c1 = 0 ∧ k1 = 0) := by
  exact ev_ret (rw_23_put_r1 X _ _) ⟨rfl, rfl, rfl, rfl⟩
set_option maxRecDepth 100000 in
theorem rw_24_put_r1 (X : ez_X) (cz kz : Nat) : ∀ G : ez_F, fx_up X 11 G 38 0 [.ref 33, .int 6, .int (-1)] [] rw_h42 cz kz = some (none, rw_h43, cz + 0, kz + 0) := by
  intro G
  rfl
theorem rw_24_put (X : ez_X) : ev_W X 38 0 (ez_lay [.ref 33, .int 6, .int (-1)]) [] rw_h42 0 0 (fun r h1 c1 k1 => r = none ∧ h1 = rw_h43 ∧ c1 = 0 ∧ k1 = 0) := by
  exact ev_ret (rw_24_put_r1 X _ _) ⟨rfl, rfl, rfl, rfl⟩
set_option maxRecDepth 100000 in
theorem rw_25_put_r1 (X : ez_X) (cz kz : Nat) : ∀ G : ez_F, fx_up X 11 G 38 0 [.ref 33, .int 7, .int (-1)] [] rw_h43 cz kz = some (none, rw_h44, cz + 0, kz + 0) := by
  intro G
  rfl
theorem rw_25_put (X : ez_X) : ev_W X 38 0 (ez_lay [.ref 33, .int 7, .int (-1)]) [] rw_h43 0 0 (fun r h1 c1 k1 => r = none ∧ h1 = rw_h44 ∧ c1 = 0 ∧ k1 = 0) := by
  exact ev_ret (rw_25_put_r1 X _ _) ⟨rfl, rfl, rfl, rfl⟩
set_option maxRecDepth 100000 in
theorem rw_26_put_r1 (X : ez_X) (cz kz : Nat) : ∀ G : ez_F, fx_up X 11 G 38 0 [.ref 33, .int 8, .int (-1)] [] rw_h44 cz kz = some (none, rw_h45, cz + 0, kz + 0) := by
  intro G
  rfl
theorem rw_26_put (X : ez_X) : ev_W X 38 0 (ez_lay [.ref 33, .int 8, .int (-1)]) [] rw_h44 0 0 (fun r h1 c1 k1 => r = none ∧ h1 = rw_h45 ∧ c1 = 0 ∧ k1 = 0) := by
  exact ev_ret (rw_26_put_r1 X _ _) ⟨rfl, rfl, rfl, rfl⟩
set_option maxRecDepth 100000 in
theorem rw_27_put_r1 (X : ez_X) (cz kz : Nat) : ∀ G : ez_F, fx_up X 11 G 38 0 [.ref 33, .int 9, .int (-1)] [] rw_h45 cz kz = some (none, rw_h46, cz + 0, kz + 0) := by
  intro G
  rfl
theorem rw_27_put (X : ez_X) : ev_W X 38 0 (ez_lay [.ref 33, .int 9, .int (-1)]) [] rw_h45 0 0 (fun r h1 c1 k1 => r = none ∧ h1 = rw_h46 ∧ c1 = 0 ∧ k1 = 0) := by
  exact ev_ret (rw_27_put_r1 X _ _) ⟨rfl, rfl, rfl, rfl⟩
set_option maxRecDepth 100000 in
theorem rw_28_put_r1 (X : ez_X) (cz kz : Nat) : ∀ G : ez_F, fx_up X 11 G 38 0 [.ref 33, .int 10, .int (-1)] [] rw_h46 cz kz = some (none, rw_h47, cz + 0, kz + 0) := by
  intro G
  rfl
theorem rw_28_put (X : ez_X) : ev_W X 38 0 (ez_lay [.ref 33, .int 10, .int (-1)]) [] rw_h46 0 0 (fun r h1 c1 k1 => r = none ∧ h1 = rw_h47 ∧ c1 = 0 ∧ k1 = 0) := by
  exact ev_ret (rw_28_put_r1 X _ _) ⟨rfl, rfl, rfl, rfl⟩
set_option maxRecDepth 100000 in
theorem rw_29_put_r1 (X : ez_X) (cz kz : Nat) : ∀ G : ez_F, fx_up X 11 G 38 0 [.ref 33, .int 11, .int (-1)] [] rw_h47 cz kz = some (none, rw_h48, cz + 0, kz + 0) := by
  intro G
  rfl
theorem rw_29_put (X : ez_X) : ev_W X 38 0 (ez_lay [.ref 33, .int 11, .int (-1)]) [] rw_h47 0 0 (fun r h1 c1 k1 => r = none ∧ h1 = rw_h48 ∧ c1 = 0 ∧ k1 = 0) := by
  exact ev_ret (rw_29_put_r1 X _ _) ⟨rfl, rfl, rfl, rfl⟩
set_option maxRecDepth 100000 in
theorem rw_17_clear_r1 (X : ez_X) (cz kz : Nat) : ∀ G : ez_F, fx_up X 10 G 72 0 [.ref 32] [] rw_h36 cz kz = ev_C G 38 [.ref 33, .int 0, .int (-1)] rw_h36 fun r h1 c1 k1 => G 72 17 [.ref 32, .int 0] (r.toList ++ []) h1 (cz + 0 + c1) (kz + 0 + k1) := by
  intro G
  rfl
set_option maxRecDepth 100000 in
theorem rw_17_clear_r2 (X : ez_X) (cz kz : Nat) : ∀ G : ez_F, fx_up X 10 G 72 17 [.ref 32, .int 0] [] rw_h37 cz kz = ev_C G 38 [.ref 33, .int 1, .int (-1)] rw_h37 fun r h1 c1 k1 => G 72 17 [.ref 32, .int 1] (r.toList ++ []) h1 (cz + 0 + c1) (kz + 0 + k1) := by
  intro G
  rfl
set_option maxRecDepth 100000 in
theorem rw_17_clear_r3 (X : ez_X) (cz kz : Nat) : ∀ G : ez_F, fx_up X 10 G 72 17 [.ref 32, .int 1] [] rw_h38 cz kz = ev_C G 38 [.ref 33, .int 2, .int (-1)] rw_h38 fun r h1 c1 k1 => G 72 17 [.ref 32, .int 2] (r.toList ++ []) h1 (cz + 0 + c1) (kz + 0 + k1) := by
  intro G
  rfl
set_option maxRecDepth 100000 in
theorem rw_17_clear_r4 (X : ez_X) (cz kz : Nat) : ∀ G : ez_F, fx_up X 10 G 72 17 [.ref 32, .int 2] [] rw_h39 cz kz = ev_C G 38 [.ref 33, .int 3, .int (-1)] rw_h39 fun r h1 c1 k1 => G 72 17 [.ref 32, .int 3] (r.toList ++ []) h1 (cz + 0 + c1) (kz + 0 + k1) := by
  intro G
  rfl
set_option maxRecDepth 100000 in
theorem rw_17_clear_r5 (X : ez_X) (cz kz : Nat) : ∀ G : ez_F, fx_up X 10 G 72 17 [.ref 32, .int 3] [] rw_h40 cz kz = ev_C G 38 [.ref 33, .int 4, .int (-1)] rw_h40 fun r h1 c1 k1 => G 72 17 [.ref 32, .int 4] (r.toList ++ []) h1 (cz + 0 + c1) (kz + 0 + k1) := by
  intro G
  rfl
set_option maxRecDepth 100000 in
theorem rw_17_clear_r6 (X : ez_X) (cz kz : Nat) : ∀ G : ez_F, fx_up X 10 G 72 17 [.ref 32, .int 4] [] rw_h41 cz kz = ev_C G 38 [.ref 33, .int 5, .int (-1)] rw_h41 fun r h1 c1 k1 => G 72 17 [.ref 32, .int 5] (r.toList ++ []) h1 (cz + 0 + c1) (kz + 0 + k1) := by
  intro G
  rfl
set_option maxRecDepth 100000 in
theorem rw_17_clear_r7 (X : ez_X) (cz kz : Nat) : ∀ G : ez_F, fx_up X 10 G 72 17 [.ref 32, .int 5] [] rw_h42 cz kz = ev_C G 38 [.ref 33, .int 6, .int (-1)] rw_h42 fun r h1 c1 k1 => G 72 17 [.ref 32, .int 6] (r.toList ++ []) h1 (cz + 0 + c1) (kz + 0 + k1) := by
  intro G
  rfl
set_option maxRecDepth 100000 in
theorem rw_17_clear_r8 (X : ez_X) (cz kz : Nat) : ∀ G : ez_F, fx_up X 10 G 72 17 [.ref 32, .int 6] [] rw_h43 cz kz = ev_C G 38 [.ref 33, .int 7, .int (-1)] rw_h43 fun r h1 c1 k1 => G 72 17 [.ref 32, .int 7] (r.toList ++ []) h1 (cz + 0 + c1) (kz + 0 + k1) := by
  intro G
  rfl
set_option maxRecDepth 100000 in
theorem rw_17_clear_r9 (X : ez_X) (cz kz : Nat) : ∀ G : ez_F, fx_up X 10 G 72 17 [.ref 32, .int 7] [] rw_h44 cz kz = ev_C G 38 [.ref 33, .int 8, .int (-1)] rw_h44 fun r h1 c1 k1 => G 72 17 [.ref 32, .int 8] (r.toList ++ []) h1 (cz + 0 + c1) (kz + 0 + k1) := by
  intro G
  rfl
set_option maxRecDepth 100000 in
theorem rw_17_clear_r10 (X : ez_X) (cz kz : Nat) : ∀ G : ez_F, fx_up X 10 G 72 17 [.ref 32, .int 8] [] rw_h45 cz kz = ev_C G 38 [.ref 33, .int 9, .int (-1)] rw_h45 fun r h1 c1 k1 => G 72 17 [.ref 32, .int 9] (r.toList ++ []) h1 (cz + 0 + c1) (kz + 0 + k1) := by
  intro G
  rfl
set_option maxRecDepth 100000 in
theorem rw_17_clear_r11 (X : ez_X) (cz kz : Nat) : ∀ G : ez_F, fx_up X 10 G 72 17 [.ref 32, .int 9] [] rw_h46 cz kz = ev_C G 38 [.ref 33, .int 10, .int (-1)] rw_h46 fun r h1 c1 k1 => G 72 17 [.ref 32, .int 10] (r.toList ++ []) h1 (cz + 0 + c1) (kz + 0 + k1) := by
  intro G
  rfl
set_option maxRecDepth 100000 in
theorem rw_17_clear_r12 (X : ez_X) (cz kz : Nat) : ∀ G : ez_F, fx_up X 10 G 72 17 [.ref 32, .int 10] [] rw_h47 cz kz = ev_C G 38 [.ref 33, .int 11, .int (-1)] rw_h47 fun r h1 c1 k1 => G 72 17 [.ref 32, .int 11] (r.toList ++ []) h1 (cz + 0 + c1) (kz + 0 + k1) := by
  intro G
  rfl
set_option maxRecDepth 100000 in
theorem rw_17_clear_r13 (X : ez_X) (cz kz : Nat) : ∀ G : ez_F, fx_up X 6 G 72 17 [.ref 32, .int 11] [] rw_h48 cz kz = some (none, rw_h48, cz + 0, kz + 0) := by
  intro G
  rfl
theorem rw_17_clear (X : ez_X) : ev_W X 72 0 (ez_lay [.ref 32]) [] rw_h36 0 0 (fun r h1 c1 k1 => r = none ∧ h1 = rw_h48 ∧ c1 = 0 ∧ k1 = 0) := by
  refine ev_call (rw_17_clear_r1 X _ _) (rw_18_put X) ?_
  rintro _ _ _ _ ⟨rfl, rfl, rfl, rfl⟩
  refine ev_call (rw_17_clear_r2 X _ _) (rw_19_put X) ?_
  rintro _ _ _ _ ⟨rfl, rfl, rfl, rfl⟩
  refine ev_call (rw_17_clear_r3 X _ _) (rw_20_put X) ?_
  rintro _ _ _ _ ⟨rfl, rfl, rfl, rfl⟩
  refine ev_call (rw_17_clear_r4 X _ _) (rw_21_put X) ?_
  rintro _ _ _ _ ⟨rfl, rfl, rfl, rfl⟩
  refine ev_call (rw_17_clear_r5 X _ _) (rw_22_put X) ?_
  rintro _ _ _ _ ⟨rfl, rfl, rfl, rfl⟩
  refine ev_call (rw_17_clear_r6 X _ _) (rw_23_put X) ?_
  rintro _ _ _ _ ⟨rfl, rfl, rfl, rfl⟩
  refine ev_call (rw_17_clear_r7 X _ _) (rw_24_put X) ?_
  rintro _ _ _ _ ⟨rfl, rfl, rfl, rfl⟩
  refine ev_call (rw_17_clear_r8 X _ _) (rw_25_put X) ?_
  rintro _ _ _ _ ⟨rfl, rfl, rfl, rfl⟩
  refine ev_call (rw_17_clear_r9 X _ _) (rw_26_put X) ?_
  rintro _ _ _ _ ⟨rfl, rfl, rfl, rfl⟩
  refine ev_call (rw_17_clear_r10 X _ _) (rw_27_put X) ?_
  rintro _ _ _ _ ⟨rfl, rfl, rfl, rfl⟩
  refine ev_call (rw_17_clear_r11 X _ _) (rw_28_put X) ?_
  rintro _ _ _ _ ⟨rfl, rfl, rfl, rfl⟩
  refine ev_call (rw_17_clear_r12 X _ _) (rw_29_put X) ?_
  rintro _ _ _ _ ⟨rfl, rfl, rfl, rfl⟩
  exact ev_ret (rw_17_clear_r13 X _ _) ⟨rfl, rfl, rfl, rfl⟩
set_option maxRecDepth 100000 in
theorem rw_16_init_r1 (X : ez_X) (cz kz : Nat) : ∀ G : ez_F, fx_up X 16 G 71 0 [.ref 32, .ref 1, .ref 6] [] rw_h35 cz kz = G 71 30 [.ref 32, .ref 1, .ref 6] [] rw_h36 (cz + 2) (kz + 76) := by
  intro G
  rfl
set_option maxRecDepth 100000 in
theorem rw_16_init_r2 (X : ez_X) (cz kz : Nat) : ∀ G : ez_F, fx_up X 2 G 71 30 [.ref 32, .ref 1, .ref 6] [] rw_h36 cz kz = ev_C G 72 [.ref 32] rw_h36 fun r h1 c1 k1 => G 71 34 [.ref 32, .ref 1, .ref 6] (r.toList ++ []) h1 (cz + 0 + c1) (kz + 0 + k1) := by
  intro G
  rfl
set_option maxRecDepth 100000 in
theorem rw_16_init_r3 (X : ez_X) (cz kz : Nat) : ∀ G : ez_F, fx_up X 1 G 71 34 [.ref 32, .ref 1, .ref 6] [] rw_h48 cz kz = some (none, rw_h48, cz + 0, kz + 0) := by
  intro G
  rfl
theorem rw_16_init (X : ez_X) : ev_W X 71 0 (ez_lay [.ref 32, .ref 1, .ref 6]) [] rw_h35 0 0 (fun r h1 c1 k1 => r = none ∧ h1 = rw_h48 ∧ c1 = 2 ∧ k1 = 76) := by
  refine ev_seg (rw_16_init_r1 X _ _) ?_
  refine ev_call (rw_16_init_r2 X _ _) (rw_17_clear X) ?_
  rintro _ _ _ _ ⟨rfl, rfl, rfl, rfl⟩
  exact ev_ret (rw_16_init_r3 X _ _) ⟨rfl, rfl, rfl, rfl⟩
set_option maxRecDepth 100000 in
theorem rw_2_init_r1 (X : ez_X) (cz kz : Nat) : ∀ G : ez_F, fx_up X 6 G 0 0 [.ref 0] [] rw_h1 cz kz = ev_C G 143 [.ref 1] rw_h2 fun r h1 c1 k1 => G 0 12 [.ref 0] (r.toList ++ [.ref 1, .ref 0]) h1 (cz + 1 + c1) (kz + 10 + k1) := by
  intro G
  rfl
set_option maxRecDepth 100000 in
theorem rw_2_init_r2 (X : ez_X) (cz kz : Nat) : ∀ G : ez_F, fx_up X 7 G 0 12 [.ref 0] [.ref 1, .ref 0] rw_h12 cz kz = ev_C G 84 [.ref 3, .ref 1] rw_h13 fun r h1 c1 k1 => G 0 27 [.ref 0] (r.toList ++ [.ref 3, .ref 0]) h1 (cz + 1 + c1) (kz + 4 + k1) := by
  intro G
  rfl
set_option maxRecDepth 100000 in
theorem rw_2_init_r3 (X : ez_X) (cz kz : Nat) : ∀ G : ez_F, fx_up X 9 G 0 27 [.ref 0] [.ref 3, .ref 0] rw_h14 cz kz = ev_C G 136 [.ref 6, .ref 1, .ref 3] rw_h15 fun r h1 c1 k1 => G 0 46 [.ref 0] (r.toList ++ [.ref 6, .ref 0]) h1 (cz + 1 + c1) (kz + 5 + k1) := by
  intro G
  rfl
set_option maxRecDepth 100000 in
theorem rw_2_init_r4 (X : ez_X) (cz kz : Nat) : ∀ G : ez_F, fx_up X 5 G 0 46 [.ref 0] [.ref 6, .ref 0] rw_h16 cz kz = ev_C G 120 [.ref 8] rw_h17 fun r h1 c1 k1 => G 0 57 [.ref 0] (r.toList ++ [.ref 8, .ref 0]) h1 (cz + 1 + c1) (kz + 4 + k1) := by
  intro G
  rfl
set_option maxRecDepth 100000 in
theorem rw_2_init_r5 (X : ez_X) (cz kz : Nat) : ∀ G : ez_F, fx_up X 13 G 0 57 [.ref 0] [.ref 8, .ref 0] rw_h18 cz kz = ev_C G 128 [.ref 10, .ref 1, .ref 3, .ref 6, .ref 8] rw_h19 fun r h1 c1 k1 => G 0 84 [.ref 0] (r.toList ++ [.ref 10, .ref 0]) h1 (cz + 1 + c1) (kz + 6 + k1) := by
  intro G
  rfl
set_option maxRecDepth 100000 in
theorem rw_2_init_r6 (X : ez_X) (cz kz : Nat) : ∀ G : ez_F, fx_up X 13 G 0 84 [.ref 0] [.ref 10, .ref 0] rw_h21 cz kz = ev_C G 104 [.ref 13, .ref 1, .ref 6, .ref 8, .ref 10] rw_h22 fun r h1 c1 k1 => G 0 111 [.ref 0] (r.toList ++ [.ref 13, .ref 0]) h1 (cz + 1 + c1) (kz + 10 + k1) := by
  intro G
  rfl
set_option maxRecDepth 100000 in
theorem rw_2_init_r7 (X : ez_X) (cz kz : Nat) : ∀ G : ez_F, fx_up X 9 G 0 111 [.ref 0] [.ref 13, .ref 0] rw_h25 cz kz = ev_C G 114 [.ref 20, .ref 6, .ref 13] rw_h26 fun r h1 c1 k1 => G 0 130 [.ref 0] (r.toList ++ [.ref 20, .ref 0]) h1 (cz + 1 + c1) (kz + 7 + k1) := by
  intro G
  rfl
set_option maxRecDepth 100000 in
theorem rw_2_init_r8 (X : ez_X) (cz kz : Nat) : ∀ G : ez_F, fx_up X 11 G 0 130 [.ref 0] [.ref 20, .ref 0] rw_h27 cz kz = ev_C G 56 [.ref 22, .ref 1, .ref 3, .ref 6] rw_h28 fun r h1 c1 k1 => G 0 153 [.ref 0] (r.toList ++ [.ref 22, .ref 0]) h1 (cz + 1 + c1) (kz + 12 + k1) := by
  intro G
  rfl
set_option maxRecDepth 100000 in
theorem rw_2_init_r9 (X : ez_X) (cz kz : Nat) : ∀ G : ez_F, fx_up X 13 G 0 153 [.ref 0] [.ref 22, .ref 0] rw_h32 cz kz = ev_C G 95 [.ref 31, .ref 3, .ref 6, .ref 8, .ref 13] rw_h33 fun r h1 c1 k1 => G 0 180 [.ref 0] (r.toList ++ [.ref 31, .ref 0]) h1 (cz + 1 + c1) (kz + 6 + k1) := by
  intro G
  rfl
set_option maxRecDepth 100000 in
theorem rw_2_init_r10 (X : ez_X) (cz kz : Nat) : ∀ G : ez_F, fx_up X 9 G 0 180 [.ref 0] [.ref 31, .ref 0] rw_h34 cz kz = ev_C G 71 [.ref 32, .ref 1, .ref 6] rw_h35 fun r h1 c1 k1 => G 0 199 [.ref 0] (r.toList ++ [.ref 32, .ref 0]) h1 (cz + 1 + c1) (kz + 4 + k1) := by
  intro G
  rfl
set_option maxRecDepth 100000 in
theorem rw_2_init_r11 (X : ez_X) (cz kz : Nat) : ∀ G : ez_F, fx_up X 2 G 0 199 [.ref 0] [.ref 32, .ref 0] rw_h48 cz kz = some (none, rw_h49, cz + 0, kz + 0) := by
  intro G
  rfl
theorem rw_2_init (X : ez_X) : ev_W X 0 0 (ez_lay [.ref 0]) [] rw_h1 0 0 (fun r h1 c1 k1 => r = none ∧ h1 = rw_h49 ∧ c1 = 34 ∧ k1 = 3732) := by
  refine ev_call (rw_2_init_r1 X _ _) (rw_3_init X) ?_
  rintro _ _ _ _ ⟨rfl, rfl, rfl, rfl⟩
  refine ev_call (rw_2_init_r2 X _ _) (rw_6_init X) ?_
  rintro _ _ _ _ ⟨rfl, rfl, rfl, rfl⟩
  refine ev_call (rw_2_init_r3 X _ _) (rw_7_init X) ?_
  rintro _ _ _ _ ⟨rfl, rfl, rfl, rfl⟩
  refine ev_call (rw_2_init_r4 X _ _) (rw_8_init X) ?_
  rintro _ _ _ _ ⟨rfl, rfl, rfl, rfl⟩
  refine ev_call (rw_2_init_r5 X _ _) (rw_9_init X) ?_
  rintro _ _ _ _ ⟨rfl, rfl, rfl, rfl⟩
  refine ev_call (rw_2_init_r6 X _ _) (rw_10_init X) ?_
  rintro _ _ _ _ ⟨rfl, rfl, rfl, rfl⟩
  refine ev_call (rw_2_init_r7 X _ _) (rw_12_init X) ?_
  rintro _ _ _ _ ⟨rfl, rfl, rfl, rfl⟩
  refine ev_call (rw_2_init_r8 X _ _) (rw_13_init X) ?_
  rintro _ _ _ _ ⟨rfl, rfl, rfl, rfl⟩
  refine ev_call (rw_2_init_r9 X _ _) (rw_15_init X) ?_
  rintro _ _ _ _ ⟨rfl, rfl, rfl, rfl⟩
  refine ev_call (rw_2_init_r10 X _ _) (rw_16_init X) ?_
  rintro _ _ _ _ ⟨rfl, rfl, rfl, rfl⟩
  exact ev_ret (rw_2_init_r11 X _ _) ⟨rfl, rfl, rfl, rfl⟩
set_option maxRecDepth 100000 in
theorem rw_30_init_r1 (X : ez_X) (cz kz : Nat) : ∀ G : ez_F, fx_up X 16 G 164 0 [.ref 35] [] rw_h50 cz kz = G 164 28 [.ref 35] [] rw_h51 (cz + 2) (kz + 6) := by
  intro G
  rfl
set_option maxRecDepth 100000 in
theorem rw_30_init_r2 (X : ez_X) (cz kz : Nat) : ∀ G : ez_F, fx_up X 16 G 164 28 [.ref 35] [] rw_h51 cz kz = G 164 59 [.ref 35] [.ref 35] rw_h52 (cz + 3) (kz + 1803) := by
  intro G
  rfl
set_option maxRecDepth 100000 in
theorem rw_30_init_r3 (X : ez_X) (cz kz : Nat) : ∀ G : ez_F, fx_up X 16 G 164 59 [.ref 35] [.ref 35] rw_h52 cz kz = G 164 92 [.ref 35] [.ref 35] rw_h53 (cz + 4) (kz + 30093) := by
  intro G
  rfl
set_option maxRecDepth 100000 in
theorem rw_30_init_r4 (X : ez_X) (cz kz : Nat) : ∀ G : ez_F, fx_up X 16 G 164 92 [.ref 35] [.ref 35] rw_h53 cz kz = G 164 121 [.ref 35] [.ref 35] rw_h54 (cz + 4) (kz + 40) := by
  intro G
  rfl
set_option maxRecDepth 100000 in
theorem rw_30_init_r5 (X : ez_X) (cz kz : Nat) : ∀ G : ez_F, fx_up X 16 G 164 121 [.ref 35] [.ref 35] rw_h54 cz kz = G 164 157 [.ref 35] [.ref 35] rw_h55 (cz + 4) (kz + 80008) := by
  intro G
  rfl
set_option maxRecDepth 100000 in
theorem rw_30_init_r6 (X : ez_X) (cz kz : Nat) : ∀ G : ez_F, fx_up X 16 G 164 157 [.ref 35] [.ref 35] rw_h55 cz kz = G 164 191 [.ref 35] [.ref 35] rw_h56 (cz + 4) (kz + 3634) := by
  intro G
  rfl
set_option maxRecDepth 100000 in
theorem rw_30_init_r7 (X : ez_X) (cz kz : Nat) : ∀ G : ez_F, fx_up X 16 G 164 191 [.ref 35] [.ref 35] rw_h56 cz kz = G 164 226 [.ref 35] [.ref 35] rw_h57 (cz + 4) (kz + 1243) := by
  intro G
  rfl
set_option maxRecDepth 100000 in
theorem rw_30_init_r8 (X : ez_X) (cz kz : Nat) : ∀ G : ez_F, fx_up X 16 G 164 226 [.ref 35] [.ref 35] rw_h57 cz kz = G 164 261 [.ref 35] [.int 0] rw_h58 (cz + 4) (kz + 1215) := by
  intro G
  rfl
set_option maxRecDepth 100000 in
theorem rw_30_init_r9 (X : ez_X) (cz kz : Nat) : ∀ G : ez_F, fx_up X 16 G 164 261 [.ref 35] [.int 0] rw_h58 cz kz = G 164 272 [.ref 35, .int 1] [.ref 61] rw_h59 (cz + 0) (kz + 0) := by
  intro G
  rfl
set_option maxRecDepth 100000 in
theorem rw_30_init_r10 (X : ez_X) (cz kz : Nat) : ∀ G : ez_F, fx_up X 16 G 164 272 [.ref 35, .int 1] [.ref 61] rw_h59 cz kz = G 164 263 [.ref 35, .int 3] [.int 3] rw_h60 (cz + 0) (kz + 0) := by
  intro G
  rfl
set_option maxRecDepth 100000 in
theorem rw_30_init_r11 (X : ez_X) (cz kz : Nat) : ∀ G : ez_F, fx_up X 16 G 164 263 [.ref 35, .int 3] [.int 3] rw_h60 cz kz = G 164 274 [.ref 35, .int 4] [.int (-1), .int 4, .ref 61] rw_h61 (cz + 0) (kz + 0) := by
  intro G
  rfl
set_option maxRecDepth 100000 in
theorem rw_30_init_r12 (X : ez_X) (cz kz : Nat) : ∀ G : ez_F, fx_up X 16 G 164 274 [.ref 35, .int 4] [.int (-1), .int 4, .ref 61] rw_h61 cz kz = G 164 268 [.ref 35, .int 6] [] rw_h62 (cz + 0) (kz + 0) := by
  intro G
  rfl
set_option maxRecDepth 100000 in
theorem rw_30_init_r13 (X : ez_X) (cz kz : Nat) : ∀ G : ez_F, fx_up X 16 G 164 268 [.ref 35, .int 6] [] rw_h62 cz kz = G 164 278 [.ref 35, .int 8] [] rw_h63 (cz + 0) (kz + 0) := by
  intro G
  rfl
set_option maxRecDepth 100000 in
theorem rw_30_init_r14 (X : ez_X) (cz kz : Nat) : ∀ G : ez_F, fx_up X 16 G 164 278 [.ref 35, .int 8] [] rw_h63 cz kz = G 164 272 [.ref 35, .int 9] [.ref 61] rw_h64 (cz + 0) (kz + 0) := by
  intro G
  rfl
set_option maxRecDepth 100000 in
theorem rw_30_init_r15 (X : ez_X) (cz kz : Nat) : ∀ G : ez_F, fx_up X 16 G 164 272 [.ref 35, .int 9] [.ref 61] rw_h64 cz kz = G 164 263 [.ref 35, .int 11] [.int 11] rw_h65 (cz + 0) (kz + 0) := by
  intro G
  rfl
set_option maxRecDepth 100000 in
theorem rw_30_init_r16 (X : ez_X) (cz kz : Nat) : ∀ G : ez_F, fx_up X 13 G 164 263 [.ref 35, .int 11] [.int 11] rw_h65 cz kz = some (none, rw_h66, cz + 0, kz + 0) := by
  intro G
  rfl
theorem rw_30_init (X : ez_X) : ev_W X 164 0 (ez_lay [.ref 35]) [] rw_h50 0 0 (fun r h1 c1 k1 => r = none ∧ h1 = rw_h66 ∧ c1 = 29 ∧ k1 = 118042) := by
  refine ev_seg (rw_30_init_r1 X _ _) ?_
  refine ev_seg (rw_30_init_r2 X _ _) ?_
  refine ev_seg (rw_30_init_r3 X _ _) ?_
  refine ev_seg (rw_30_init_r4 X _ _) ?_
  refine ev_seg (rw_30_init_r5 X _ _) ?_
  refine ev_seg (rw_30_init_r6 X _ _) ?_
  refine ev_seg (rw_30_init_r7 X _ _) ?_
  refine ev_seg (rw_30_init_r8 X _ _) ?_
  refine ev_seg (rw_30_init_r9 X _ _) ?_
  refine ev_seg (rw_30_init_r10 X _ _) ?_
  refine ev_seg (rw_30_init_r11 X _ _) ?_
  refine ev_seg (rw_30_init_r12 X _ _) ?_
  refine ev_seg (rw_30_init_r13 X _ _) ?_
  refine ev_seg (rw_30_init_r14 X _ _) ?_
  refine ev_seg (rw_30_init_r15 X _ _) ?_
  exact ev_ret (rw_30_init_r16 X _ _) ⟨rfl, rfl, rfl, rfl⟩
set_option maxRecDepth 100000 in
theorem rw_1_law_r1 (X : ez_X) (cz kz : Nat) : ∀ G : ez_F, fx_up X 3 G 241 0 [ez_scr] [] rw_h0 cz kz = ev_C G 0 [.ref 0] rw_h1 fun r h1 c1 k1 => G 241 7 [ez_scr] (r.toList ++ [.ref 0]) h1 (cz + 1 + c1) (kz + 10 + k1) := by
  intro G
  rfl
set_option maxRecDepth 100000 in
theorem rw_1_law_r2 (X : ez_X) (cz kz : Nat) : ∀ G : ez_F, fx_up X 4 G 241 7 [ez_scr] [.ref 0] rw_h49 cz kz = ev_C G 164 [.ref 35] rw_h50 fun r h1 c1 k1 => G 241 15 [ez_scr, .ref 0] (r.toList ++ [.ref 35]) h1 (cz + 1 + c1) (kz + 42 + k1) := by
  intro G
  rfl
set_option maxRecDepth 100000 in
theorem rw_1_law_r3 (X : ez_X) (cz kz : Nat) : ∀ G : ez_F, fx_up X 3 G 241 15 [ez_scr, .ref 0] [.ref 35] rw_h66 cz kz = G 241 18 [ez_scr, .ref 0, .ref 35, .int 0] [] rw_h66 (cz + 0) (kz + 0) := by
  intro G
  rfl
theorem rw_end : rw_h66 = ev_hp ev_I0 ev_J0 ev_R0 [] := by rfl
/-- from the law's entry to its loop, whatever the script -/
theorem rw_start (X : ez_X) {Q : ev_Q} (e : ev_W X 241 18 [ez_scr, .ref 0, .ref 35, .int 0] [] (ev_hp ev_I0 ev_J0 ev_R0 []) 65 121826 Q) : ev_W X 241 0 [ez_scr] [] [] 0 0 Q := by
  refine ev_call (rw_1_law_r1 X _ _) (rw_2_init X) ?_
  rintro _ _ _ _ ⟨rfl, rfl, rfl, rfl⟩
  refine ev_call (rw_1_law_r2 X _ _) (rw_30_init X) ?_
  rintro _ _ _ _ ⟨rfl, rfl, rfl, rfl⟩
  refine ev_seg (rw_1_law_r3 X _ _) ?_
  rw [rw_end]
  exact e
end
section
/-! What both sides keep of the calls that were made: the key of the class's world, that of the reference's. -/
/-- wide, high, wraps, cells, drift, the three rules, how many ships, how many calls, the counts -/
abbrev kt_K : Type := Int32 × Int32 × Int32 × Int32 × Int32 × Int32 × Int32 × Int32 × Int32 × Int32 × Int32 × (Nat → Int32)
noncomputable def kx (I : Nat → Nat → Int32) : kt_K := (I 1 3, I 1 4, I 1 5, I 1 6, I 1 1, I 1 2, I 2 0, I 2 1, I 2 2, I 3 3, I 8 1, fun r => if r < 12 then I 33 r else 0)
noncomputable def km (I : Nat → Nat → Int32) : kt_K := (I 35 0, I 35 1, I 35 2, I 35 0 * I 35 1, I 35 9, I 35 10, I 35 6, I 35 7, I 35 8, I 35 3, I 35 16, fun r => if r < 12 then I 61 r else 0)
section
variable {I I' : Nat → Nat → Int32} {J J' : Nat → Nat → Int64} {R R' : Nat → Nat} {T T' : List ez_C}
theorem hp_row {p n : Nat} {t : List (Nat × Nat)} (h : cx_Ds[p]? = some (0, n, t)) (e : ev_hp I J R T = ev_hp I' J' R' T') : I p = I' p := by
  have a := cx_getI (I := I) (J := J) (R := R) (T := T) h
  rw [e, cx_getI h] at a
  injection a with a
  injection a with a
  injection a with _ a
  injection a with a
  exact a.symm
theorem hp_rowJ {p n : Nat} {t : List (Nat × Nat)} (h : cx_Ds[p]? = some (1, n, t)) (e : ev_hp I J R T = ev_hp I' J' R' T') : J p = J' p := by
  have a := cx_getJ (I := I) (J := J) (R := R) (T := T) h
  rw [e, cx_getJ h] at a
  injection a with a
  injection a with a
  injection a with _ a
  injection a with a
  injection a with a
  exact a.symm
theorem hp_obj {p n c : Nat} {fl : List (Nat × Nat)} (h : cx_Ds[p]? = some (n + 2, c, fl)) (e : ev_hp I J R T = ev_hp I' J' R' T') : cx_fl I' J' R' p 0 fl = cx_fl I J R p 0 fl := by
  have a := cx_getC (I := I) (J := J) (R := R) (T := T) h
  rw [e, cx_getC h] at a
  injection a with a
  injection a with a
  injection a with _ a
theorem hp_fld {p n c k q : Nat} {fl : List (Nat × Nat)} (h : cx_Ds[p]? = some (n + 2, c, fl)) (hk : fl[k]? = some (0, q)) (e : ev_hp I J R T = ev_hp I' J' R' T') : I p k = I' p k := by
  have a := hp_obj h e
  have b := cx_fl_get (I := I) (J := J) (R := R) (a := p) fl 0 k hk
  rw [← a, cx_fl_get fl 0 k hk] at b
  simp only [Nat.zero_add, cx_fv] at b
  injection b with b
  injection b with b
  exact b.symm
theorem hp_fldJ {p n c k q : Nat} {fl : List (Nat × Nat)} (h : cx_Ds[p]? = some (n + 2, c, fl)) (hk : fl[k]? = some (1, q)) (e : ev_hp I J R T = ev_hp I' J' R' T') : J p k = J' p k := by
  have a := hp_obj h e
  have b := cx_fl_get (I := I) (J := J) (R := R) (a := p) fl 0 k hk
  rw [← a, cx_fl_get fl 0 k hk] at b
  simp only [Nat.zero_add, cx_fv] at b
  injection b with b
  injection b with b
  exact b.symm
theorem kx_hp (e : ev_hp I J R T = ev_hp I' J' R' T') : kx I = kx I' := by
  have f1 : ∀ k, (k = 1 ∨ k = 2 ∨ k = 3 ∨ k = 4 ∨ k = 5 ∨ k = 6) → I 1 k = I' 1 k := by
    intro k hk
    rcases hk with rfl | rfl | rfl | rfl | rfl | rfl <;> exact hp_fld (n := 0) (show cx_Ds[1]? = some (0 + 2, _, _) from rfl) rfl e
  have f3 : I 3 3 = I' 3 3 := hp_fld (n := 0) (show cx_Ds[3]? = some (0 + 2, _, _) from rfl) rfl e
  have f8 : I 8 1 = I' 8 1 := hp_fld (n := 0) (show cx_Ds[8]? = some (0 + 2, _, _) from rfl) rfl e
  have f2 : I 2 = I' 2 := hp_row (show cx_Ds[2]? = some (0, _, _) from rfl) e
  have f33 : I 33 = I' 33 := hp_row (show cx_Ds[33]? = some (0, _, _) from rfl) e
  unfold kx
  rw [f1 3 (by decide), f1 4 (by decide), f1 5 (by decide), f1 6 (by decide), f1 1 (by decide), f1 2 (by decide), f3, f8, f2, f33]
theorem km_hp (e : ev_hp I J R T = ev_hp I' J' R' T') : km I = km I' := by
  have f1 : ∀ k, (k = 0 ∨ k = 1 ∨ k = 2 ∨ k = 3 ∨ k = 6 ∨ k = 7 ∨ k = 8 ∨ k = 9 ∨ k = 10 ∨ k = 16) → I 35 k = I' 35 k := by
    intro k hk
    rcases hk with rfl | rfl | rfl | rfl | rfl | rfl | rfl | rfl | rfl | rfl <;> exact hp_fld (n := 0) (show cx_Ds[35]? = some (0 + 2, _, _) from rfl) rfl e
  have f61 : I 61 = I' 61 := hp_row (show cx_Ds[61]? = some (0, _, _) from rfl) e
  unfold km
  rw [f1 0 (by decide), f1 1 (by decide), f1 2 (by decide), f1 3 (by decide), f1 6 (by decide), f1 7 (by decide), f1 8 (by decide), f1 9 (by decide), f1 10 (by decide), f1 16 (by decide), f61]
noncomputable def kt_fx (md : List (Nat × Nat)) : Bool := ([(1, 1), (1, 2), (1, 3), (1, 4), (1, 5), (1, 6), (2, 0), (2, 1), (2, 2), (3, 3), (8, 1)].all fun e => !cx_may md e.1 e.2) && (List.range 12).all fun r => !cx_may md 33 r
noncomputable def kt_fm (md : List (Nat × Nat)) : Bool := ([(35, 0), (35, 1), (35, 2), (35, 3), (35, 6), (35, 7), (35, 8), (35, 9), (35, 10), (35, 16)].all fun e => !cx_may md e.1 e.2) && (List.range 12).all fun r => !cx_may md 61 r
theorem kt_one {md : List (Nat × Nat)} {l : List (Nat × Nat)} (h : (l.all fun e => !cx_may md e.1 e.2) = true) (hf : cx_fr md I J I' J') {a k : Nat} (hm : (a, k) ∈ l) : I' a k = I a k := by
  have h1 := List.all_eq_true.mp h (a, k) hm
  refine (hf a k ?_).1
  simpa using h1
theorem kt_row {md : List (Nat × Nat)} {p : Nat} (h : ((List.range 12).all fun r => !cx_may md p r) = true) (hf : cx_fr md I J I' J') : (fun r => if r < 12 then I' p r else 0) = (fun r => if r < 12 then I p r else 0) := by
  funext r
  split
  · rename_i hr
    have h1 := List.all_eq_true.mp h r (List.mem_range.mpr hr)
    refine (hf p r ?_).1
    simpa using h1
  · rfl
theorem kx_fr {md : List (Nat × Nat)} (h : kt_fx md = true) (hf : cx_fr md I J I' J') : kx I' = kx I := by
  obtain ⟨h1, h2⟩ := Bool.and_eq_true_iff.mp h
  unfold kx
  rw [kt_row h2 hf, kt_one h1 hf (a := 1) (k := 1) (by decide), kt_one h1 hf (a := 1) (k := 2) (by decide), kt_one h1 hf (a := 1) (k := 3) (by decide), kt_one h1 hf (a := 1) (k := 4) (by decide), kt_one h1 hf (a := 1) (k := 5) (by decide), kt_one h1 hf (a := 1) (k := 6) (by decide),
    kt_one h1 hf (a := 2) (k := 0) (by decide), kt_one h1 hf (a := 2) (k := 1) (by decide), kt_one h1 hf (a := 2) (k := 2) (by decide), kt_one h1 hf (a := 3) (k := 3) (by decide), kt_one h1 hf (a := 8) (k := 1) (by decide)]
theorem km_fr {md : List (Nat × Nat)} (h : kt_fm md = true) (hf : cx_fr md I J I' J') : km I' = km I := by
  obtain ⟨h1, h2⟩ := Bool.and_eq_true_iff.mp h
  unfold km
  rw [kt_row h2 hf, kt_one h1 hf (a := 35) (k := 0) (by decide), kt_one h1 hf (a := 35) (k := 1) (by decide), kt_one h1 hf (a := 35) (k := 2) (by decide), kt_one h1 hf (a := 35) (k := 3) (by decide), kt_one h1 hf (a := 35) (k := 6) (by decide), kt_one h1 hf (a := 35) (k := 7) (by decide),
    kt_one h1 hf (a := 35) (k := 8) (by decide), kt_one h1 hf (a := 35) (k := 9) (by decide), kt_one h1 hf (a := 35) (k := 10) (by decide), kt_one h1 hf (a := 35) (k := 16) (by decide)]
end
/-- a call's answer and its key behind it -/
noncomputable def kp_E (k : (Nat → Nat → Int32) → kt_K) (f : kt_K → Int32 × kt_K) (I : Nat → Nat → Int32) : ev_Q := fun r h _ _ => ∃ (v : Int32) (I' : Nat → Nat → Int32) (J' : Nat → Nat → Int64) (R' : Nat → Nat) (T' : List ez_C), r = some (.int v) ∧ h = ev_hp I' J' R' T' ∧ (v, k I') = f (k I)
noncomputable def kp_X (f : kt_K → Int32 × kt_K) (I : Nat → Nat → Int32) (T : List ez_C) : ev_Q := fun r h c k => ∃ (v : Int32) (I' : Nat → Nat → Int32) (J' : Nat → Nat → Int64) (R' : Nat → Nat) (T' : List ez_C), r = some (.int v) ∧ h = ev_hp I' J' R' T' ∧ cx_hok cx_B0 I' R' T' ∧ c + T.length = T'.length ∧ k + cx_mem T = cx_mem T' ∧ (v, kx I') = f (kx I) ∧ km I' = km I
noncomputable def kp_M (f : kt_K → Int32 × kt_K) (I : Nat → Nat → Int32) (T : List ez_C) : ev_Q := fun r h c k => ∃ (v : Int32) (I' : Nat → Nat → Int32) (J' : Nat → Nat → Int64) (R' : Nat → Nat) (T' : List ez_C), r = some (.int v) ∧ h = ev_hp I' J' R' T' ∧ cx_hok cx_B0 I' R' T' ∧ c + T.length = T'.length ∧ k + cx_mem T = cx_mem T' ∧ (v, km I') = f (km I) ∧ kx I' = kx I
/-- the machine comes to one end -/
theorem ev_W.both {X : ez_X} {m pc : Nat} {ls st : List Value} {h : ez_H} {c k : Nat} {Q1 Q2 : ev_Q} (e1 : ev_W X m pc ls st h c k Q1) (e2 : ev_W X m pc ls st h c k Q2) : ev_W X m pc ls st h c k (fun r h' c' k' => Q1 r h' c' k' ∧ Q2 r h' c' k') := by
  obtain ⟨r1, h1, c1, k1, q1, F1, hF1⟩ := e1
  obtain ⟨r2, h2, c2, k2, q2, F2, hF2⟩ := e2
  have a := hF1 F2
  have b := hF2 F1
  rw [Nat.add_comm F2 F1, a] at b
  injection b with b
  injection b with b1 b
  injection b with b2 b
  injection b with b3 b4
  subst b1 b2 b3 b4
  exact ⟨r1, h1, c1, k1, ⟨q1, q2⟩, F1, hF1⟩
section
variable {X : ez_X} {m : Nat} {K : cx_K} {ls : List Value} {σ0 : List Int} {I : Nat → Nat → Int32} {J : Nat → Nat → Int64} {R : Nat → Nat} {T : List ez_C} {f : kt_K → Int32 × kt_K}
theorem kp_x (hv : cx_valid cx_B0 m K) (hf : kt_fm K.2.1 = true) (hX2 : X.1 < 2 ^ 31) (hh : cx_hok cx_B0 I R T) (hok : cx_ok σ0 K.1 ls [] I T) (he : ev_W X m 0 ls [] (ev_hp I J R T) 0 0 (kp_E kx f I)) : ev_W X m 0 ls [] (ev_hp I J R T) 0 0 (kp_X f I T) := by
  refine (he.both (hv X σ0 ls I J R T hX2 hh hok)).mono ?_
  rintro r h' c' k' ⟨⟨v, I1, J1, R1, T1, e1, e2, e3⟩, I', J', R', T', q1, q2, q3, q4, q5, q6, -⟩
  exact ⟨v, I', J', R', T', e1, q1, q2, by omega, by omega, by rw [← kx_hp (e2.symm.trans q1)]; exact e3, km_fr hf q3⟩
theorem kp_m (hv : cx_valid cx_B0 m K) (hf : kt_fx K.2.1 = true) (hX2 : X.1 < 2 ^ 31) (hh : cx_hok cx_B0 I R T) (hok : cx_ok σ0 K.1 ls [] I T) (he : ev_W X m 0 ls [] (ev_hp I J R T) 0 0 (kp_E km f I)) : ev_W X m 0 ls [] (ev_hp I J R T) 0 0 (kp_M f I T) := by
  refine (he.both (hv X σ0 ls I J R T hX2 hh hok)).mono ?_
  rintro r h' c' k' ⟨⟨v, I1, J1, R1, T1, e1, e2, e3⟩, I', J', R', T', q1, q2, q3, q4, q5, q6, -⟩
  exact ⟨v, I', J', R', T', e1, q1, q2, by omega, by omega, by rw [← km_hp (e2.symm.trans q1)]; exact e3, kx_fr hf q3⟩
end
end
section
/-! The calls that change the key, as functions of it. -/
noncomputable def kf_grid (w h b : Int32) (K : kt_K) : Int32 × kt_K := if ev_wi w 2 6 = 0 then (-3, K) else if ev_wi h 2 6 = 0 then (-3, K) else (w * h, (w, h, b, w * h, 0, 0, K.2.2.2.2.2.2.1, K.2.2.2.2.2.2.2.1, K.2.2.2.2.2.2.2.2.1, 0, 0, fun r => if r < 12 then -1 else 0))
/-- w, h, wraps, cells, dx, dy, touch, sunk, lie, ships, calls, counts -/
noncomputable def kt_mk (K : kt_K) (dx dy t s l sh ca : Int32) (cn : Nat → Int32) : kt_K := (K.1, K.2.1, K.2.2.1, K.2.2.2.1, dx, dy, t, s, l, sh, ca, cn)
noncomputable def kt_dx (K : kt_K) : Int32 := K.2.2.2.2.1
noncomputable def kt_dy (K : kt_K) : Int32 := K.2.2.2.2.2.1
noncomputable def kt_t (K : kt_K) : Int32 := K.2.2.2.2.2.2.1
noncomputable def kt_s (K : kt_K) : Int32 := K.2.2.2.2.2.2.2.1
noncomputable def kt_l (K : kt_K) : Int32 := K.2.2.2.2.2.2.2.2.1
noncomputable def kt_sh (K : kt_K) : Int32 := K.2.2.2.2.2.2.2.2.2.1
noncomputable def kt_ca (K : kt_K) : Int32 := K.2.2.2.2.2.2.2.2.2.2.1
noncomputable def kt_cn (K : kt_K) : Nat → Int32 := K.2.2.2.2.2.2.2.2.2.2.2
noncomputable def kf_set (a b : Int32) (K : kt_K) : Int32 × kt_K :=
  if a = 0 then (if ev_wi b 0 2 = 0 then (-3, K) else (kt_t K, kt_mk K (kt_dx K) (kt_dy K) b (kt_s K) (kt_l K) (kt_sh K) (kt_ca K) (kt_cn K)))
  else if a = 1 then (if ev_wi b 0 1 = 0 then (-3, K) else (kt_s K, kt_mk K (kt_dx K) (kt_dy K) (kt_t K) b (kt_l K) (kt_sh K) (kt_ca K) (kt_cn K)))
  else if a = 2 then (if ev_wi b 0 2 = 0 then (-3, K) else (kt_l K, kt_mk K (kt_dx K) (kt_dy K) (kt_t K) (kt_s K) b (kt_sh K) (kt_ca K) (kt_cn K))) else (-3, K)
noncomputable def kf_drift (a b : Int32) (K : kt_K) : Int32 × kt_K := if ev_wi a (-1) 1 = 0 then (-3, K) else if ev_wi b (-1) 1 = 0 then (-3, K) else if K.2.2.1 = 0 then (-4, K) else (1, kt_mk K a b (kt_t K) (kt_s K) (kt_l K) (kt_sh K) (kt_ca K) (kt_cn K))
noncomputable def kt_called (K : kt_K) (n : Int32) : kt_K := kt_mk K (kt_dx K) (kt_dy K) (kt_t K) (kt_s K) (kt_l K) (kt_sh K) n (kt_cn K)
noncomputable def kf_call (a : Int32) (K : kt_K) : Int32 × kt_K := if ev_wi a 0 (K.2.2.2.1 - 1) = 0 then (-2, K) else if kt_ca K < 30 then (kt_ca K + 1 - 1, kt_called K (kt_ca K + 1)) else (-5, K)
noncomputable def kf_salvo (a b : Int32) (K : kt_K) : Int32 × kt_K := if ev_wi a 0 (K.2.2.2.1 - 1) = 0 then (-2, K) else if ev_wi b 0 (K.2.2.2.1 - 1) = 0 then (-2, K) else if a = b then (-3, K) else if kt_ca K < 30 then (kt_ca K + 1 - 1, kt_called K (kt_ca K + 1)) else (-5, K)
noncomputable def kf_back (K : kt_K) : Int32 × kt_K := if kt_ca K = 0 then (-4, K) else (kt_ca K - 1, kt_called K (kt_ca K - 1))
noncomputable def kf_ship (a b : Int32) (K : kt_K) : Int32 × kt_K := if ev_wi a 1 65535 = 0 then (-3, K) else if 5 < ev_bcI a then (-3, K) else if ev_wi b 0 2 = 0 then (-3, K) else if kt_ca K ≤ 0 then (if kt_sh K < 3 then (kt_sh K, kt_mk K (kt_dx K) (kt_dy K) (kt_t K) (kt_s K) (kt_l K) (kt_sh K + 1) (kt_ca K) (kt_cn K)) else (-5, K)) else (-4, K)
noncomputable def kf_count (a b : Int32) (K : kt_K) : Int32 × kt_K := if ev_wi a 0 (K.2.1 + K.1 - 1) = 0 then (-2, K) else if ev_wi b 0 7 = 0 then (-3, K) else (kt_cn K a.toNatClampNeg, kt_mk K (kt_dx K) (kt_dy K) (kt_t K) (kt_s K) (kt_l K) (kt_sh K) (kt_ca K) (upd (kt_cn K) a.toNatClampNeg (if b = 7 then -1 else b)))
theorem il_0 (a b : Int32) : ev_il a.toInt64 0 b.toInt64 = ev_wi a 0 b := by
  have h := ev_il_wi a 0 b
  rw [show (0 : Int32).toInt64 = 0 from by decide] at h
  exact h
theorem il_01 (b : Int32) : ev_il b.toInt64 0 1 = ev_wi b 0 1 := by
  have h := il_0 b 1
  rw [show (1 : Int32).toInt64 = 1 from by decide] at h
  exact h
theorem il_02 (b : Int32) : ev_il b.toInt64 0 2 = ev_wi b 0 2 := by
  have h := il_0 b 2
  rw [show (2 : Int32).toInt64 = 2 from by decide] at h
  exact h
theorem il_07 (b : Int32) : ev_il b.toInt64 0 7 = ev_wi b 0 7 := by
  have h := il_0 b 7
  rw [show (7 : Int32).toInt64 = 7 from by decide] at h
  exact h
theorem il_11 (b : Int32) : ev_il b.toInt64 (-1) 1 = ev_wi b (-1) 1 := by
  have h := ev_il_wi b (-1) 1
  rw [show (-1 : Int32).toInt64 = -1 from by decide, show (1 : Int32).toInt64 = 1 from by decide] at h
  exact h
theorem il_26 (b : Int32) : ev_il b.toInt64 2 6 = ev_wi b 2 6 := by
  have h := ev_il_wi b 2 6
  rw [show (2 : Int32).toInt64 = 2 from by decide, show (6 : Int32).toInt64 = 6 from by decide] at h
  exact h
theorem il_1s (b : Int32) : ev_il b.toInt64 1 65535 = ev_wi b 1 65535 := by
  have h := ev_il_wi b 1 65535
  rw [show (1 : Int32).toInt64 = 1 from by decide, show (65535 : Int32).toInt64 = 65535 from by decide] at h
  exact h
theorem at3_0 (f : Nat → Int32) : ev_at 3 f 0 = f 0 := by
  unfold ev_at
  rw [if_neg (by decide), if_neg (by decide), show (0 : Int32).toNatClampNeg = 0 from by decide]
theorem at3_1 (f : Nat → Int32) : ev_at 3 f 1 = f 1 := by
  unfold ev_at
  rw [if_neg (by decide), if_neg (by decide), show (1 : Int32).toNatClampNeg = 1 from by decide]
theorem at3_2 (f : Nat → Int32) : ev_at 3 f 2 = f 2 := by
  unfold ev_at
  rw [if_neg (by decide), if_neg (by decide), show (2 : Int32).toNatClampNeg = 2 from by decide]
theorem pu3_0 (f : Nat → Int32) (b : Int32) : ev_put 3 f 0 b = upd f 0 b := by
  unfold ev_put
  rw [if_neg (by decide), if_neg (by decide), show (0 : Int32).toNatClampNeg = 0 from by decide]
theorem pu3_1 (f : Nat → Int32) (b : Int32) : ev_put 3 f 1 b = upd f 1 b := by
  unfold ev_put
  rw [if_neg (by decide), if_neg (by decide), show (1 : Int32).toNatClampNeg = 1 from by decide]
theorem pu3_2 (f : Nat → Int32) (b : Int32) : ev_put 3 f 2 b = upd f 2 b := by
  unfold ev_put
  rw [if_neg (by decide), if_neg (by decide), show (2 : Int32).toNatClampNeg = 2 from by decide]
theorem wi_3 {a : Int32} (h : ¬ ev_wi a 0 2 = 0) (h0 : ¬ a = 0) (h1 : ¬ a = 1) : a = 2 := by
  obtain ⟨g1, g2⟩ := ev_wi_ne h
  have e0 : (0 : Int32).toInt = 0 := by decide
  have e1 : (1 : Int32).toInt = 1 := by decide
  have e2 : (2 : Int32).toInt = 2 := by decide
  rw [← Int32.toInt_inj] at h0 h1 ⊢
  omega
section
variable (X : ez_X) (I : Nat → Nat → Int32) (J : Nat → Nat → Int64) (R : Nat → Nat) (T : List ez_C)
theorem kc_set (a b : Int32) : ev_W X 42 0 (ez_lay [.ref 0, .int a, .int b]) [] (ev_hp I J R T) 0 0 (kp_E kx (kf_set a b) I) := by
  refine (eg_set X I J R T a b).mono ?_
  rintro r h1 c1 k1 (⟨a0, e, hh, -⟩ | ⟨a0, a1, a2, a3, a4, e, hh, -⟩ | ⟨a0, a1, a2, a3, a4, e, hh, -⟩ | ⟨a0, a1, a2, a3, e, hh, -⟩ | ⟨a0, a1, a2, e, hh, -⟩ | ⟨a0, a1, a2, a3, a4, e, hh, -⟩ | ⟨a0, a1, a2, a3, a4, e, hh, -⟩ | ⟨a0, a1, a2, a3, e, hh, -⟩ | ⟨a0, a1, a2, e, hh, -⟩)
  · refine ⟨_, I, J, R, T, e, hh, ?_⟩
    unfold kf_set
    rw [if_neg (fun z => by subst z; exact absurd a0 (by decide)), if_neg (fun z => by subst z; exact absurd a0 (by decide)), if_neg (fun z => by subst z; exact absurd a0 (by decide))]
  · obtain rfl := wi_3 a0 a3 a1
    refine ⟨_, _, _, _, _, e, hh, ?_⟩
    unfold kf_set
    rw [if_neg (by decide), if_neg (by decide), if_pos rfl, if_neg a2, at3_2, pu3_2]
    rfl
  · exact absurd (Classical.not_not.mp a4) a1
  · obtain rfl := Classical.not_not.mp a3
    refine ⟨_, _, _, _, _, e, hh, ?_⟩
    unfold kf_set
    rw [if_pos rfl, if_neg a2, at3_0, pu3_0]
    rfl
  · refine ⟨_, I, J, R, T, e, hh, ?_⟩
    unfold kf_set
    by_cases z : a = 0
    · rw [if_pos z, if_pos (Classical.not_not.mp a2)]
    · rw [if_neg z, if_neg a1, if_pos (wi_3 a0 z a1), if_pos (Classical.not_not.mp a2)]
  · exact absurd (Classical.not_not.mp a1) a4
  · obtain rfl := Classical.not_not.mp a4
    refine ⟨_, _, _, _, _, e, hh, ?_⟩
    unfold kf_set
    rw [if_neg (by decide), if_pos rfl, if_neg a2, at3_1, pu3_1]
    rfl
  · have z := (Classical.not_not.mp a1).symm.trans (Classical.not_not.mp a3)
    exact absurd z (by decide)
  · obtain rfl := Classical.not_not.mp a1
    refine ⟨_, I, J, R, T, e, hh, ?_⟩
    unfold kf_set
    rw [if_neg (by decide), if_pos rfl, if_pos (Classical.not_not.mp a2)]
theorem kd_set (a b : Int32) : ev_W X 219 0 (ez_lay [.ref 35, .int a, .int b]) [] (ev_hp I J R T) 0 0 (kp_E km (kf_set a b) I) := by
  refine (em_set X I J R T a b).mono ?_
  rw [il_01 b, il_02 b]
  rintro r h1 c1 k1 (⟨a0, a1, a2, e, hh, -⟩ | ⟨a0, a1, a2, a3, e, hh, -⟩ | ⟨a0, a1, a2, a3, e, hh, -⟩ | ⟨a0, a1, a2, a3, e, hh, -⟩ | ⟨a0, a1, a2, a3, a4, e, hh, -⟩ | ⟨a0, a1, a2, a3, a4, e, hh, -⟩ | ⟨a0, a1, a2, e, hh, -⟩ | ⟨a0, a1, a2, a3, e, hh, -⟩ | ⟨a0, a1, a2, a3, a4, e, hh, -⟩ | ⟨a0, a1, a2, a3, a4, e, hh, -⟩ | ⟨a0, a1, a2, a3, a4, e, hh, -⟩ | ⟨a0, a1, a2, a3, a4, a5, e, hh, -⟩ | ⟨a0, a1, a2, a3, a4, a5, e, hh, -⟩ | ⟨a0, a1, a2, a3, e, hh, -⟩ | ⟨a0, a1, e, hh, -⟩)
  · refine ⟨_, I, J, R, T, e, hh, ?_⟩
    unfold kf_set
    rw [if_neg a0, if_neg a1, if_neg a2]
  · obtain rfl := Classical.not_not.mp a2
    refine ⟨_, I, J, R, T, e, hh, ?_⟩
    unfold kf_set
    rw [if_neg (by decide), if_neg (by decide), if_pos rfl, if_pos a3]
  · obtain rfl := Classical.not_not.mp a2
    refine ⟨_, _, _, _, _, e, hh, ?_⟩
    unfold kf_set
    rw [if_neg (by decide), if_neg (by decide), if_pos rfl, if_neg a3]
    rfl
  · obtain rfl := Classical.not_not.mp a1
    refine ⟨_, I, J, R, T, e, hh, ?_⟩
    unfold kf_set
    rw [if_neg (by decide), if_pos rfl, if_pos a2]
  · have z := (Classical.not_not.mp a1).symm.trans (Classical.not_not.mp a3)
    exact absurd z (by decide)
  · have z := (Classical.not_not.mp a1).symm.trans (Classical.not_not.mp a3)
    exact absurd z (by decide)
  · obtain rfl := Classical.not_not.mp a1
    refine ⟨_, _, _, _, _, e, hh, ?_⟩
    unfold kf_set
    rw [if_neg (by decide), if_pos rfl, if_neg a2]
    rfl
  · obtain rfl := Classical.not_not.mp a0
    refine ⟨_, I, J, R, T, e, hh, ?_⟩
    unfold kf_set
    rw [if_pos rfl, if_pos a1]
  · have z := (Classical.not_not.mp a0).symm.trans (Classical.not_not.mp a3)
    exact absurd z (by decide)
  · have z := (Classical.not_not.mp a0).symm.trans (Classical.not_not.mp a3)
    exact absurd z (by decide)
  · have z := (Classical.not_not.mp a0).symm.trans (Classical.not_not.mp a2)
    exact absurd z (by decide)
  · have z := (Classical.not_not.mp a0).symm.trans (Classical.not_not.mp a2)
    exact absurd z (by decide)
  · have z := (Classical.not_not.mp a0).symm.trans (Classical.not_not.mp a2)
    exact absurd z (by decide)
  · have z := (Classical.not_not.mp a0).symm.trans (Classical.not_not.mp a2)
    exact absurd z (by decide)
  · obtain rfl := Classical.not_not.mp a0
    refine ⟨_, _, _, _, _, e, hh, ?_⟩
    unfold kf_set
    rw [if_pos rfl, if_neg a1]
    rfl
end
section
variable {X : ez_X} {I : Nat → Nat → Int32} {J : Nat → Nat → Int64} {R : Nat → Nat} {T : List ez_C} {cz kz : Nat}
theorem sp_r0 {a : Int32} {b : Int32} : ∀ G : ez_F, fx_up X 4 G 43 0 [.ref 0, .int a, .int b] [] (ev_hp I J R T) cz kz = ev_C G 55 [.int a, .int 1, .int 65535] (ev_hp I J R T) fun r h1 c1 k1 => G 43 7 [.ref 0, .int a, .int b] (r.toList ++ []) h1 (cz + c1) (kz + k1) := by
  intro G
  rfl
theorem sp_r1 {a : Int32} {b : Int32} {v : Int32} : ∀ G : ez_F, fx_up X 1 G 43 7 [.ref 0, .int a, .int b] [.int v] (ev_hp I J R T) cz kz = bif decide (v = (0 : Int32)) then G 43 27 [.ref 0, .int a, .int b] [] (ev_hp I J R T) cz kz else G 43 10 [.ref 0, .int a, .int b] [] (ev_hp I J R T) cz kz := by
  intro G
  rfl
theorem sp_r2 {a : Int32} {b : Int32} : ∀ G : ez_F, fx_up X 2 G 43 27 [.ref 0, .int a, .int b] [] (ev_hp I J R T) cz kz = some (some (.int (-3)), ev_hp I J R T, cz, kz) := by
  intro G
  rfl
theorem sp_r3 {a : Int32} {b : Int32} : ∀ G : ez_F, fx_up X 2 G 43 10 [.ref 0, .int a, .int b] [] (ev_hp I J R T) cz kz = ev_C G 234 [.int a] (ev_hp I J R T) fun r h1 c1 k1 => G 43 14 [.ref 0, .int a, .int b] (r.toList ++ []) h1 (cz + c1) (kz + k1) := by
  intro G
  rfl
theorem sp_r4 {a : Int32} {b : Int32} {v : Int32} : ∀ G : ez_F, fx_up X 2 G 43 14 [.ref 0, .int a, .int b] [.int v] (ev_hp I J R T) cz kz = bif decide ((5 : Int32) < v) then G 43 27 [.ref 0, .int a, .int b] [] (ev_hp I J R T) cz kz else G 43 18 [.ref 0, .int a, .int b] [] (ev_hp I J R T) cz kz := by
  intro G
  rfl
theorem sp_r5 {a : Int32} {b : Int32} : ∀ G : ez_F, fx_up X 4 G 43 18 [.ref 0, .int a, .int b] [] (ev_hp I J R T) cz kz = ev_C G 55 [.int b, .int 0, .int 2] (ev_hp I J R T) fun r h1 c1 k1 => G 43 24 [.ref 0, .int a, .int b] (r.toList ++ []) h1 (cz + c1) (kz + k1) := by
  intro G
  rfl
theorem sp_r6 {a : Int32} {b : Int32} {v : Int32} : ∀ G : ez_F, fx_up X 1 G 43 24 [.ref 0, .int a, .int b] [.int v] (ev_hp I J R T) cz kz = bif decide (¬ v = (0 : Int32)) then G 43 30 [.ref 0, .int a, .int b] [] (ev_hp I J R T) cz kz else G 43 27 [.ref 0, .int a, .int b] [] (ev_hp I J R T) cz kz := by
  intro G
  rfl
theorem sp_r7 {a : Int32} {b : Int32} : ∀ G : ez_F, fx_up X 4 G 43 30 [.ref 0, .int a, .int b] [] (ev_hp I J R T) cz kz = bif decide ((I 8 1) ≤ (0 : Int32)) then G 43 43 [.ref 0, .int a, .int b] [] (ev_hp I J R T) cz kz else G 43 40 [.ref 0, .int a, .int b] [] (ev_hp I J R T) cz kz := by
  intro G
  rfl
theorem sp_r8 {a : Int32} {b : Int32} : ∀ G : ez_F, fx_up X 2 G 43 40 [.ref 0, .int a, .int b] [] (ev_hp I J R T) cz kz = some (some (.int (-4)), ev_hp I J R T, cz, kz) := by
  intro G
  rfl
theorem sp_r9 {a : Int32} {b : Int32} : ∀ G : ez_F, fx_up X 5 G 43 43 [.ref 0, .int a, .int b] [] (ev_hp I J R T) cz kz = bif decide ((I 3 3) < (3 : Int32)) then G 43 57 [.ref 0, .int a, .int b] [] (ev_hp I J R T) cz kz else G 43 54 [.ref 0, .int a, .int b] [] (ev_hp I J R T) cz kz := by
  intro G
  rfl
theorem sp_r10 {a : Int32} {b : Int32} : ∀ G : ez_F, fx_up X 2 G 43 54 [.ref 0, .int a, .int b] [] (ev_hp I J R T) cz kz = some (some (.int (-5)), ev_hp I J R T, cz, kz) := by
  intro G
  rfl
theorem sp_r11 {a : Int32} {b : Int32} : ∀ G : ez_F, fx_up X 5 G 43 57 [.ref 0, .int a, .int b] [] (ev_hp I J R T) cz kz = ev_C G 85 [.ref 3, .int a, .int b] (ev_hp I J R T) fun r h1 c1 k1 => G 43 66 [.ref 0, .int a, .int b] (r.toList ++ []) h1 (cz + c1) (kz + k1) := by
  intro G
  rfl
theorem sp_r12 {a : Int32} {b : Int32} {v : Int32} : ∀ G : ez_F, fx_up X 3 G 43 66 [.ref 0, .int a, .int b] [.int v] (ev_hp I J R T) cz kz = ev_C G 28 [.ref 0] (ev_hp I J R T) fun r h1 c1 k1 => G 43 71 [.ref 0, .int a, .int b, .int v] (r.toList ++ []) h1 (cz + c1) (kz + k1) := by
  intro G
  rfl
theorem sp_r13 {a : Int32} {b : Int32} {v : Int32} : ∀ G : ez_F, fx_up X 2 G 43 71 [.ref 0, .int a, .int b, .int v] [] (ev_hp I J R T) cz kz = some (some (.int v), ev_hp I J R T, cz, kz) := by
  intro G
  rfl
end
section
variable {X : ez_X} {I : Nat → Nat → Int32} {J : Nat → Nat → Int64} {R : Nat → Nat} {T : List ez_C} {cz kz : Nat}
theorem bk_r0  : ∀ G : ez_F, fx_up X 3 G 168 0 [.ref 35] [] (ev_hp I J R T) cz kz = bif decide (¬ (I 35 16) = (0 : Int32)) then G 168 10 [.ref 35] [] (ev_hp I J R T) cz kz else G 168 7 [.ref 35] [] (ev_hp I J R T) cz kz := by
  intro G
  rfl
theorem bk_r1  : ∀ G : ez_F, fx_up X 2 G 168 7 [.ref 35] [] (ev_hp I J R T) cz kz = some (some (.int (-4)), ev_hp I J R T, cz, kz) := by
  intro G
  rfl
theorem bk_r2  : ∀ G : ez_F, fx_up X 3 G 168 10 [.ref 35] [] (ev_hp I J R T) cz kz = G 168 15 [.ref 35] [.int (I 35 16), .ref 35] (ev_hp I J R T) cz kz := by
  intro G
  rfl
theorem bk_r3 {x : Int32} : ∀ G : ez_F, fx_up X 3 G 168 15 [.ref 35] [.int x, .ref 35] (ev_hp I J R T) cz kz = G 168 20 [.ref 35] [] (ev_hp (ev_sI I 35 (upd (I 35) 16 (x - 1))) J R T) cz kz := by
  intro G
  rfl
theorem bk_r4  : ∀ G : ez_F, fx_up X 3 G 168 20 [.ref 35] [] (ev_hp I J R T) cz kz = some (some (.int (I 35 16)), ev_hp I J R T, cz, kz) := by
  intro G
  rfl
end
section
variable {X : ez_X} {I : Nat → Nat → Int32} {J : Nat → Nat → Int64} {R : Nat → Nat} {T : List ez_C} {cz kz : Nat}
theorem ct_r0 {a : Int32} {b : Int32} : ∀ G : ez_F, fx_up X 3 G 182 0 [.ref 35, .int a, .int b] [] (ev_hp I J R T) cz kz = ev_C G 203 [.ref 35, .int a] (ev_hp I J R T) fun r h1 c1 k1 => G 182 5 [.ref 35, .int a, .int b] (r.toList ++ []) h1 (cz + c1) (kz + k1) := by
  intro G
  rfl
theorem ct_r1 {a : Int32} {b : Int32} {v : Int32} : ∀ G : ez_F, fx_up X 1 G 182 5 [.ref 35, .int a, .int b] [.int v] (ev_hp I J R T) cz kz = bif decide (¬ v = (0 : Int32)) then G 182 11 [.ref 35, .int a, .int b] [] (ev_hp I J R T) cz kz else G 182 8 [.ref 35, .int a, .int b] [] (ev_hp I J R T) cz kz := by
  intro G
  rfl
theorem ct_r2 {a : Int32} {b : Int32} : ∀ G : ez_F, fx_up X 2 G 182 8 [.ref 35, .int a, .int b] [] (ev_hp I J R T) cz kz = some (some (.int (-2)), ev_hp I J R T, cz, kz) := by
  intro G
  rfl
theorem ct_r3 {a : Int32} {b : Int32} : ∀ G : ez_F, fx_up X 5 G 182 11 [.ref 35, .int a, .int b] [] (ev_hp I J R T) cz kz = ev_C G 198 [.long (b.toInt64), .long 0, .long 7] (ev_hp I J R T) fun r h1 c1 k1 => G 182 20 [.ref 35, .int a, .int b] (r.toList ++ []) h1 (cz + c1) (kz + k1) := by
  intro G
  rfl
theorem ct_r4 {a : Int32} {b : Int32} {v : Int32} : ∀ G : ez_F, fx_up X 1 G 182 20 [.ref 35, .int a, .int b] [.int v] (ev_hp I J R T) cz kz = bif decide (¬ v = (0 : Int32)) then G 182 26 [.ref 35, .int a, .int b] [] (ev_hp I J R T) cz kz else G 182 23 [.ref 35, .int a, .int b] [] (ev_hp I J R T) cz kz := by
  intro G
  rfl
theorem ct_r5 {a : Int32} {b : Int32} : ∀ G : ez_F, fx_up X 2 G 182 23 [.ref 35, .int a, .int b] [] (ev_hp I J R T) cz kz = some (some (.int (-3)), ev_hp I J R T, cz, kz) := by
  intro G
  rfl
theorem ct_r6 {a : Int32} {b : Int32} : ∀ G : ez_F, fx_up X 3 G 182 26 [.ref 35, .int a, .int b] [] (ev_hp I J R T) cz kz = G 182 31 [.ref 35, .int a, .int b] [.int a, .ref 61] (ev_hp I J R T) cz kz := by
  intro G
  rfl
theorem ct_r7 {a : Int32} {b : Int32} {x : Int32} : ∀ G : ez_F, fx_up X 7 G 182 32 [.ref 35, .int a, .int b] [.int x] (ev_hp I J R T) cz kz = bif decide (¬ b = (7 : Int32)) then G 182 48 [.ref 35, .int a, .int b, .int x] [.int a, .ref 61] (ev_hp I J R T) cz kz else G 182 44 [.ref 35, .int a, .int b, .int x] [.int a, .ref 61] (ev_hp I J R T) cz kz := by
  intro G
  rfl
theorem ct_r8 {a : Int32} {b : Int32} {x : Int32} : ∀ G : ez_F, fx_up X 2 G 182 44 [.ref 35, .int a, .int b, .int x] [.int a, .ref 61] (ev_hp I J R T) cz kz = G 182 49 [.ref 35, .int a, .int b, .int x] [.int (-1), .int a, .ref 61] (ev_hp I J R T) cz kz := by
  intro G
  rfl
theorem ct_r9 {a : Int32} {b : Int32} {x : Int32} : ∀ G : ez_F, fx_up X 1 G 182 48 [.ref 35, .int a, .int b, .int x] [.int a, .ref 61] (ev_hp I J R T) cz kz = G 182 49 [.ref 35, .int a, .int b, .int x] [.int b, .int a, .ref 61] (ev_hp I J R T) cz kz := by
  intro G
  rfl
theorem ct_r10 {a : Int32} {b : Int32} {x : Int32} : ∀ G : ez_F, fx_up X 2 G 182 50 [.ref 35, .int a, .int b, .int x] [] (ev_hp I J R T) cz kz = some (some (.int x), ev_hp I J R T, cz, kz) := by
  intro G
  rfl
end
theorem nn {p : Prop} (h : ¬ ¬ p) : p := Classical.not_not.mp h
theorem b_1 {I : Nat → Nat → Int32} (hh : cx_hB cx_B0 I) (k : Nat) (hk : k = 3 ∨ k = 4) : 2 ≤ (I 1 k).toInt ∧ (I 1 k).toInt ≤ 6 := by
  have h := hh 1 k
  rcases hk with rfl | rfl <;> exact h
theorem b_35 {I : Nat → Nat → Int32} (hh : cx_hB cx_B0 I) (k : Nat) (hk : k = 0 ∨ k = 1) : 2 ≤ (I 35 k).toInt ∧ (I 35 k).toInt ≤ 6 := by
  have h := hh 35 k
  rcases hk with rfl | rfl <;> exact h
theorem b_ca {I : Nat → Nat → Int32} (hh : cx_hB cx_B0 I) : (0 ≤ (I 8 1).toInt ∧ (I 8 1).toInt ≤ 30) ∧ (0 ≤ (I 35 16).toInt ∧ (I 35 16).toInt ≤ 30) := ⟨hh 8 1, hh 35 16⟩
theorem b_sh {I : Nat → Nat → Int32} (hh : cx_hB cx_B0 I) : (0 ≤ (I 3 3).toInt ∧ (I 3 3).toInt ≤ 3) ∧ (0 ≤ (I 35 3).toInt ∧ (I 35 3).toInt ≤ 3) := ⟨hh 3 3, hh 35 3⟩
theorem rim_lt {w h a : Int32} (hw : 2 ≤ w.toInt ∧ w.toInt ≤ 6) (hh : 2 ≤ h.toInt ∧ h.toInt ≤ 6) (ha : ¬ ev_wi a 0 (h + w - 1) = 0) : 0 ≤ a.toInt ∧ a.toInt < 12 := by
  obtain ⟨g1, g2⟩ := ev_wi_ne ha
  have e0 : (0 : Int32).toInt = 0 := by decide
  have e1 : (1 : Int32).toInt = 1 := by decide
  have es : (h + w).toInt = h.toInt + w.toInt := by
    rw [Int32.toInt_add, cx_bm32]
    simp only [cx_i32]
    omega
  have e2 : (h + w - 1).toInt = h.toInt + w.toInt - 1 := by
    rw [Int32.toInt_sub, es, e1, cx_bm32]
    simp only [cx_i32]
    omega
  omega
theorem at12 {a : Int32} (h : 0 ≤ a.toInt ∧ a.toInt < 12) (f : Nat → Int32) : ev_at 12 f a = f a.toNatClampNeg := by
  have e0 : (0 : Int32).toInt = 0 := by decide
  have e2 : (Int32.ofNat 12).toInt = 12 := by decide
  unfold ev_at
  rw [if_neg (fun z => by have := Int32.lt_iff_toInt_lt.mp z; omega), if_neg (fun z => by have := Int32.le_iff_toInt_le.mp z; omega)]
theorem pu12 {a : Int32} (h : 0 ≤ a.toInt ∧ a.toInt < 12) (f : Nat → Int32) (v : Int32) : ev_put 12 f a v = upd f a.toNatClampNeg v := by
  have e0 : (0 : Int32).toInt = 0 := by decide
  have e2 : (Int32.ofNat 12).toInt = 12 := by decide
  unfold ev_put
  rw [if_neg (fun z => by have := Int32.lt_iff_toInt_lt.mp z; omega), if_neg (fun z => by have := Int32.le_iff_toInt_le.mp z; omega)]
theorem cn_upd {k : Nat} (h : k < 12) (f : Nat → Int32) (v : Int32) : (fun r => if r < 12 then upd f k v r else 0) = upd (fun r => if r < 12 then f r else 0) k v := by
  funext r
  by_cases hr : r = k
  · subst hr
    rw [if_pos h, nd_upd_s, nd_upd_s]
  · by_cases h2 : r < 12
    · rw [if_pos h2, nd_upd_n _ _ hr, nd_upd_n _ _ hr, if_pos h2]
    · rw [if_neg h2, nd_upd_n _ _ hr, if_neg h2]
theorem i_lt {x y : Int32} (h : x.toInt < y.toInt) : x < y := Int32.lt_iff_toInt_lt.mpr h
theorem i_nlt {x y : Int32} (h : y.toInt ≤ x.toInt) : ¬ x < y := fun z => by
  have := Int32.lt_iff_toInt_lt.mp z
  omega
section
variable (X : ez_X) (I : Nat → Nat → Int32) (J : Nat → Nat → Int64) (R : Nat → Nat) (T : List ez_C)
theorem kc_grid (w h b : Int32) (hb : b = 0 ∨ b = 1) : ev_W X 18 0 (ez_lay [.ref 0, .int w, .int h, .int b]) [] (ev_hp I J R T) 0 0 (kp_E kx (kf_grid w h b) I) := by
  have hc : ∀ f : Nat → Int32, (∀ j, j < 12 → f j = -1) → (fun r => if r < 12 then f r else 0) = (fun r => if r < 12 then (-1 : Int32) else 0) := by
    intro f hf
    funext r
    split
    · rename_i hr
      exact hf r hr
    · rfl
  rcases hb with rfl | rfl
  · refine (eg_grid0 X I J R T w h).mono ?_
    rintro r h1 c1 k1 (⟨a, e, hh, -⟩ | ⟨z, y, f, hf, a, b, e, hh, -⟩ | ⟨a, b, e, hh, -⟩)
    · exact ⟨_, I, J, R, T, e, hh, (if_pos a).symm⟩
    · refine ⟨_, _, _, _, _, e, hh, Eq.trans ?_ ((if_neg a).trans (if_neg b)).symm⟩
      show (w * h, (w, h, (0 : Int32), w * h, (0 : Int32), (0 : Int32), I 2 0, I 2 1, I 2 2, (0 : Int32), (0 : Int32), fun r => if r < 12 then f r else 0)) = _
      rw [hc f hf]
      rfl
    · exact ⟨_, I, J, R, T, e, hh, ((if_neg a).trans (if_pos (nn b))).symm⟩
  · refine (eg_grid1 X I J R T w h).mono ?_
    rintro r h1 c1 k1 (⟨a, e, hh, -⟩ | ⟨z, y, f, hf, a, b, e, hh, -⟩ | ⟨a, b, e, hh, -⟩)
    · exact ⟨_, I, J, R, T, e, hh, (if_pos a).symm⟩
    · refine ⟨_, _, _, _, _, e, hh, Eq.trans ?_ ((if_neg a).trans (if_neg b)).symm⟩
      show (w * h, (w, h, (1 : Int32), w * h, (0 : Int32), (0 : Int32), I 2 0, I 2 1, I 2 2, (0 : Int32), (0 : Int32), fun r => if r < 12 then f r else 0)) = _
      rw [hc f hf]
      rfl
    · exact ⟨_, I, J, R, T, e, hh, ((if_neg a).trans (if_pos (nn b))).symm⟩
theorem kd_grid (w h b : Int32) (hb : b = 0 ∨ b = 1) : ev_W X 195 0 (ez_lay [.ref 35, .int w, .int h, .int b]) [] (ev_hp I J R T) 0 0 (kp_E km (kf_grid w h b) I) := by
  have hc : (fun r => if r < 12 then (upd (upd (upd (upd (upd (upd (upd (upd (upd (upd (upd (upd (I 61) 0 (-1)) 1 (-1)) 2 (-1)) 3 (-1)) 4 (-1)) 5 (-1)) 6 (-1)) 7 (-1)) 8 (-1)) 9 (-1)) 10 (-1)) 11 (-1)) r else 0) = (fun r => if r < 12 then (-1 : Int32) else 0) := by
    funext r
    by_cases hr : r < 12
    · rw [if_pos hr, if_pos hr]
      rcases (show r = 0 ∨ r = 1 ∨ r = 2 ∨ r = 3 ∨ r = 4 ∨ r = 5 ∨ r = 6 ∨ r = 7 ∨ r = 8 ∨ r = 9 ∨ r = 10 ∨ r = 11 by omega) with rfl | rfl | rfl | rfl | rfl | rfl | rfl | rfl | rfl | rfl | rfl | rfl <;> rfl
    · rw [if_neg hr, if_neg hr]
  rcases hb with rfl | rfl
  · refine (em_grid0 X I J R T w h).mono ?_
    rw [il_26 w, il_26 h]
    rintro r h1 c1 k1 (⟨a, e, hh, -⟩ | ⟨a, b, e, hh, -⟩ | ⟨a, b, e, hh, -⟩)
    · exact ⟨_, I, J, R, T, e, hh, (if_pos a).symm⟩
    · refine ⟨_, _, _, _, _, e, hh, Eq.trans ?_ ((if_neg a).trans (if_neg b)).symm⟩
      rw [← hc]
      rfl
    · exact ⟨_, I, J, R, T, e, hh, ((if_neg a).trans (if_pos (nn b))).symm⟩
  · refine (em_grid1 X I J R T w h).mono ?_
    rw [il_26 w, il_26 h]
    rintro r h1 c1 k1 (⟨a, e, hh, -⟩ | ⟨a, b, e, hh, -⟩ | ⟨a, b, e, hh, -⟩)
    · exact ⟨_, I, J, R, T, e, hh, (if_pos a).symm⟩
    · refine ⟨_, _, _, _, _, e, hh, Eq.trans ?_ ((if_neg a).trans (if_neg b)).symm⟩
      rw [← hc]
      rfl
    · exact ⟨_, I, J, R, T, e, hh, ((if_neg a).trans (if_pos (nn b))).symm⟩
theorem kc_drift (a b : Int32) : ev_W X 16 0 (ez_lay [.ref 0, .int a, .int b]) [] (ev_hp I J R T) 0 0 (kp_E kx (kf_drift a b) I) := by
  refine (eg_drift X I J R T a b).mono ?_
  rintro r h1 c1 k1 (⟨a0, e, hh, -⟩ | ⟨a0, a1, a2, e, hh, -⟩ | ⟨a0, a1, a2, e, hh, -⟩ | ⟨a0, a1, e, hh, -⟩)
  · exact ⟨_, I, J, R, T, e, hh, (if_pos a0).symm⟩
  · exact ⟨_, _, _, _, _, e, hh, ((if_neg a0).trans ((if_neg a1).trans (if_neg a2))).symm⟩
  · exact ⟨_, I, J, R, T, e, hh, ((if_neg a0).trans ((if_neg a1).trans (if_pos (nn a2)))).symm⟩
  · exact ⟨_, I, J, R, T, e, hh, ((if_neg a0).trans (if_pos (nn a1))).symm⟩
theorem kd_drift (a b : Int32) : ev_W X 185 0 (ez_lay [.ref 35, .int a, .int b]) [] (ev_hp I J R T) 0 0 (kp_E km (kf_drift a b) I) := by
  refine (em_drift X I J R T a b).mono ?_
  rw [il_11 a, il_11 b]
  rintro r h1 c1 k1 (⟨a0, e, hh, -⟩ | ⟨a0, a1, a2, e, hh, -⟩ | ⟨a0, a1, a2, e, hh, -⟩ | ⟨a0, a1, e, hh, -⟩)
  · exact ⟨_, I, J, R, T, e, hh, (if_pos a0).symm⟩
  · exact ⟨_, _, _, _, _, e, hh, ((if_neg a0).trans ((if_neg a1).trans (if_neg a2))).symm⟩
  · exact ⟨_, I, J, R, T, e, hh, ((if_neg a0).trans ((if_neg a1).trans (if_pos (nn a2)))).symm⟩
  · exact ⟨_, I, J, R, T, e, hh, ((if_neg a0).trans (if_pos (nn a1))).symm⟩
theorem kc_call (a : Int32) : ev_W X 10 0 (ez_lay [.ref 0, .int a]) [] (ev_hp I J R T) 0 0 (kp_E kx (kf_call a) I) := by
  refine (eg_call X I J R T a).mono ?_
  rintro r h1 c1 k1 (⟨a0, e, hh, -⟩ | ⟨a0, a1, e, hh, -⟩ | ⟨a0, a1, e, hh, -⟩)
  · exact ⟨_, I, J, R, T, e, hh, (if_pos a0).symm⟩
  · exact ⟨_, _, _, _, _, e, hh, ((if_neg a0).trans (if_pos a1)).symm⟩
  · exact ⟨_, I, J, R, T, e, hh, ((if_neg a0).trans (if_neg a1)).symm⟩
theorem ca_lt {x : Int32} (h : 0 ≤ x.toInt ∧ x.toInt ≤ 30) (hn : ¬ x = 30) : x < 30 := by
  have e : (30 : Int32).toInt = 30 := by decide
  rw [← Int32.toInt_inj] at hn
  exact i_lt (by omega)
theorem ca_ix {x : Int32} (h : 0 ≤ x.toInt ∧ x.toInt ≤ 30) (hn : ¬ x = 30) : ev_ix x 30 := by
  have e : (30 : Int32).toInt = 30 := by decide
  rw [← Int32.toInt_inj] at hn
  exact fs_ixs (by omega) (by omega)
theorem kd_call (hB : cx_hB cx_B0 I) (a : Int32) : ev_W X 175 0 (ez_lay [.ref 35, .int a]) [] (ev_hp I J R T) 0 0 (kp_E km (kf_call a) I) := by
  have hb := (b_ca hB).2
  refine (em_call X I J R T a (ca_ix hb)).mono ?_
  rw [il_0 a]
  rintro r h1 c1 k1 (⟨a0, a1, e, hh, -⟩ | ⟨a0, a1, e, hh, -⟩ | ⟨a0, e, hh, -⟩)
  · exact ⟨_, _, _, _, _, e, hh, ((if_neg a0).trans (if_pos (ca_lt hb a1))).symm⟩
  · exact ⟨_, I, J, R, T, e, hh, ((if_neg a0).trans (if_neg (show ¬ I 35 16 < 30 by rw [nn a1]; decide))).symm⟩
  · exact ⟨_, I, J, R, T, e, hh, (if_pos (nn a0)).symm⟩
theorem kc_salvo (a b : Int32) : ev_W X 41 0 (ez_lay [.ref 0, .int a, .int b]) [] (ev_hp I J R T) 0 0 (kp_E kx (kf_salvo a b) I) := by
  refine (eg_salvo X I J R T a b).mono ?_
  rintro r h1 c1 k1 (⟨a0, e, hh, -⟩ | ⟨a0, a1, a2, a3, e, hh, -⟩ | ⟨a0, a1, a2, a3, e, hh, -⟩ | ⟨a0, a1, a2, e, hh, -⟩ | ⟨a0, a1, e, hh, -⟩)
  · exact ⟨_, I, J, R, T, e, hh, (if_pos a0).symm⟩
  · exact ⟨_, _, _, _, _, e, hh, ((if_neg a0).trans ((if_neg a1).trans ((if_neg a2).trans (if_pos a3)))).symm⟩
  · exact ⟨_, I, J, R, T, e, hh, ((if_neg a0).trans ((if_neg a1).trans ((if_neg a2).trans (if_neg a3)))).symm⟩
  · exact ⟨_, I, J, R, T, e, hh, ((if_neg a0).trans ((if_neg a1).trans (if_pos (nn a2)))).symm⟩
  · exact ⟨_, I, J, R, T, e, hh, ((if_neg a0).trans (if_pos (nn a1))).symm⟩
theorem kd_salvo (hB : cx_hB cx_B0 I) (a b : Int32) : ev_W X 218 0 (ez_lay [.ref 35, .int a, .int b]) [] (ev_hp I J R T) 0 0 (kp_E km (kf_salvo a b) I) := by
  have hb := (b_ca hB).2
  refine (em_salvo X I J R T a b (ca_ix hb)).mono ?_
  rw [il_0 a, il_0 b]
  rintro r h1 c1 k1 (⟨a0, e, hh, -⟩ | ⟨a0, a1, a2, a3, e, hh, -⟩ | ⟨a0, a1, a2, a3, e, hh, -⟩ | ⟨a0, a1, a2, e, hh, -⟩ | ⟨a0, a1, e, hh, -⟩)
  · exact ⟨_, I, J, R, T, e, hh, (if_pos a0).symm⟩
  · exact ⟨_, _, _, _, _, e, hh, ((if_neg a0).trans ((if_neg a1).trans ((if_neg a2).trans (if_pos (ca_lt hb a3))))).symm⟩
  · exact ⟨_, I, J, R, T, e, hh, ((if_neg a0).trans ((if_neg a1).trans ((if_neg a2).trans (if_neg (show ¬ I 35 16 < 30 by rw [nn a3]; decide))))).symm⟩
  · exact ⟨_, I, J, R, T, e, hh, ((if_neg a0).trans ((if_neg a1).trans (if_pos (nn a2)))).symm⟩
  · exact ⟨_, I, J, R, T, e, hh, ((if_neg a0).trans (if_pos (nn a1))).symm⟩
theorem kc_back (hB : cx_hB cx_B0 I) : ev_W X 5 0 (ez_lay [.ref 0]) [] (ev_hp I J R T) 0 0 (kp_E kx kf_back I) := by
  have hb := (b_ca hB).1
  have e0 : (0 : Int32).toInt = 0 := by decide
  have e1 : (1 : Int32).toInt = 1 := by decide
  refine (eg_back X I J R T).mono ?_
  rintro r h1 c1 k1 (⟨a0, a1, e, hh, -⟩ | ⟨a0, a1, e, hh, -⟩ | ⟨a0, e, hh, -⟩)
  · have z0 := Int32.le_iff_toInt_le.mp a0
    have z1 := Int32.le_iff_toInt_le.mp a1
    omega
  · refine ⟨_, _, _, _, _, e, hh, (if_neg ?_).symm⟩
    show ¬ I 8 1 = 0
    intro z
    rw [z] at a1
    exact a1 (by decide)
  · refine ⟨_, I, J, R, T, e, hh, (if_pos ?_).symm⟩
    show I 8 1 = 0
    have z : ¬ (1 : Int32).toInt ≤ (I 8 1).toInt := fun y => a0 (Int32.le_iff_toInt_le.mpr y)
    rw [← Int32.toInt_inj]
    omega
theorem kd_back : ev_W X 168 0 (ez_lay [.ref 35]) [] (ev_hp I J R T) 0 0 (kp_E km kf_back I) := by
  refine ev_if bk_r0 (fun z => ?_) (fun z => ev_ret bk_r1 ⟨_, I, J, R, T, rfl, rfl, (if_pos (show I 35 16 = 0 from nn (of_decide_eq_false z))).symm⟩)
  refine ev_seg bk_r2 ?_
  refine ev_seg bk_r3 ?_
  exact ev_ret bk_r4 ⟨I 35 16 - 1, _, _, _, _, rfl, rfl, (if_neg (show ¬ I 35 16 = 0 from of_decide_eq_true z)).symm⟩
theorem kc_ship (hX2 : X.1 < 2 ^ 31) (hh : cx_hok cx_B0 I R T) (a b : Int32) : ev_W X 43 0 (ez_lay [.ref 0, .int a, .int b]) [] (ev_hp I J R T) 0 0 (kp_E kx (kf_ship a b) I) := by
  have hs := (b_sh hh.1).1
  have e3 : (3 : Int32).toInt = 3 := by decide
  refine ev_call sp_r0 (ec_within X _ a 1 65535) ?_
  rintro _ _ _ _ ⟨rfl, rfl, rfl, rfl⟩
  refine ev_if sp_r1 (fun x => ev_ret sp_r2 ⟨_, I, J, R, T, rfl, rfl, (if_pos (of_decide_eq_true x)).symm⟩) (fun x => ?_)
  have a0 := of_decide_eq_false x
  refine ev_call sp_r3 (ec_bcI X _ a) ?_
  rintro _ _ _ _ ⟨rfl, rfl, rfl, rfl⟩
  refine ev_if sp_r4 (fun y => ev_ret sp_r2 ⟨_, I, J, R, T, rfl, rfl, ((if_neg a0).trans (if_pos (of_decide_eq_true y))).symm⟩) (fun y => ?_)
  have a1 := of_decide_eq_false y
  refine ev_call sp_r5 (ec_within X _ b 0 2) ?_
  rintro _ _ _ _ ⟨rfl, rfl, rfl, rfl⟩
  refine ev_if sp_r6 (fun z => ?_) (fun z => ev_ret sp_r2 ⟨_, I, J, R, T, rfl, rfl, ((if_neg a0).trans ((if_neg a1).trans (if_pos (nn (of_decide_eq_false z))))).symm⟩)
  have a2 := of_decide_eq_true z
  refine ev_if sp_r7 (fun u => ?_) (fun u => ev_ret sp_r8 ⟨_, I, J, R, T, rfl, rfl, ((if_neg a0).trans ((if_neg a1).trans ((if_neg a2).trans (if_neg (of_decide_eq_false u))))).symm⟩)
  have a3 := of_decide_eq_true u
  refine ev_if sp_r9 (fun w => ?_) (fun w => ev_ret sp_r10 ⟨_, I, J, R, T, rfl, rfl, ((if_neg a0).trans ((if_neg a1).trans ((if_neg a2).trans ((if_pos a3).trans (if_neg (of_decide_eq_false w)))))).symm⟩)
  have a4 := of_decide_eq_true w
  have b4 := Int32.lt_iff_toInt_lt.mp a4
  refine ev_call sp_r11 ((ec_build X I J R T a b).both (cv_85_0 X [a.toInt, b.toInt, (I 3 3).toInt] _ I J R T hX2 hh ⟨⟨rfl, ⟨a, rfl, rfl⟩, ⟨b, rfl, rfl⟩, trivial⟩, trivial, cx_iv_cons (cx_full32 a) (cx_iv_cons (cx_full32 b) (cx_iv_cons (by simp only; omega) cx_iv_nil)), cx_nil, fun e he => by rw [List.mem_singleton.mp he]; rfl, fun e he => (by cases he)⟩)) ?_
  rintro r h1 c1 k1 ⟨⟨rfl, ⟨f, g, e1⟩, -, -⟩, I', J', R', T', e2, q2, q3, -⟩
  have ek := kx_hp (e1.symm.trans e2)
  subst e2
  refine ev_call sp_r12 (cv_28_0 X [] _ I' J' R' T' hX2 q2 ⟨⟨rfl, trivial⟩, trivial, cx_iv_nil, cx_nil, fun e he => (by cases he), fun e he => (by cases he)⟩) ?_
  rintro r h1 c1 k1 ⟨I2, J2, R2, T2, rfl, w2, w3, -, -, -, E, hE, τ, -, ho⟩
  have hE : E ∈ [(([], [], [], [], [], []) : cx_S)] := hE
  rw [List.mem_singleton.mp hE] at ho
  cases r with
  | some v => exact absurd ho.2.1 (by simp [cx_L])
  | none =>
    refine ev_ret sp_r13 ⟨I 3 3, I2, J2, R2, T2, rfl, rfl, ?_⟩
    rw [kx_fr (by rfl) w3, ← ek]
    exact ((if_neg a0).trans ((if_neg a1).trans ((if_neg a2).trans ((if_pos a3).trans (if_pos a4))))).symm
theorem kd_ship (hB : cx_hB cx_B0 I) (a b : Int32) : ev_W X 220 0 (ez_lay [.ref 35, .int a, .int b]) [] (ev_hp I J R T) 0 0 (kp_E km (kf_ship a b) I) := by
  have hs := (b_sh hB).2
  have e1 : (1 : Int32).toInt = 1 := by decide
  have e3 : (3 : Int32).toInt = 3 := by decide
  have es : I 35 3 + 1 - 1 = I 35 3 := by
    rw [← Int32.toInt_inj, Int32.toInt_sub, nd_inc (by omega) (by omega), e1, cx_bm32]
    · omega
    · simp only [cx_i32]; omega
  refine (em_ship X I J R T a b (fun hn => ?_)).mono ?_
  · rw [← Int32.toInt_inj] at hn
    exact fs_ixs (by omega) (by omega)
  rw [il_1s a, il_02 b]
  rintro r h1 c1 k1 (⟨a0, e, hh, -⟩ | ⟨a0, a1, e, hh, -⟩ | ⟨a0, a1, a2, a3, a4, e, hh, -⟩ | ⟨a0, a1, a2, a3, a4, e, hh, -⟩ | ⟨a0, a1, a2, a3, e, hh, -⟩ | ⟨a0, a1, a2, e, hh, -⟩)
  · exact ⟨_, I, J, R, T, e, hh, (if_pos a0).symm⟩
  · rw [← sb_bits a0] at a1
    exact ⟨_, I, J, R, T, e, hh, ((if_neg a0).trans (if_pos a1)).symm⟩
  · rw [← sb_bits a0] at a1
    rw [es] at e
    rw [← Int32.toInt_inj] at a4
    exact ⟨_, _, _, _, _, e, hh, ((if_neg a0).trans ((if_neg a1).trans ((if_neg a2).trans ((if_pos a3).trans (if_pos (show I 35 3 < 3 from i_lt (by omega))))))).symm⟩
  · rw [← sb_bits a0] at a1
    exact ⟨_, I, J, R, T, e, hh, ((if_neg a0).trans ((if_neg a1).trans ((if_neg a2).trans ((if_pos a3).trans (if_neg (show ¬ I 35 3 < 3 by rw [nn a4]; decide)))))).symm⟩
  · rw [← sb_bits a0] at a1
    exact ⟨_, I, J, R, T, e, hh, ((if_neg a0).trans ((if_neg a1).trans ((if_neg a2).trans (if_neg a3)))).symm⟩
  · rw [← sb_bits a0] at a1
    exact ⟨_, I, J, R, T, e, hh, ((if_neg a0).trans ((if_neg a1).trans (if_pos (nn a2)))).symm⟩
theorem kc_count (hB : cx_hB cx_B0 I) (a b : Int32) : ev_W X 14 0 (ez_lay [.ref 0, .int a, .int b]) [] (ev_hp I J R T) 0 0 (kp_E kx (kf_count a b) I) := by
  refine (eg_count X I J R T a b).mono ?_
  rintro r h1 c1 k1 (⟨a0, a1, e, hh, -⟩ | ⟨a0, a1, a2, e, hh, -⟩ | ⟨a0, a1, a2, e, hh, -⟩ | ⟨a0, e, hh, -⟩)
  · exact ⟨_, I, J, R, T, e, hh, ((if_neg a0).trans (if_pos a1)).symm⟩
  · have hr := rim_lt (b_1 hB 3 (Or.inl rfl)) (b_1 hB 4 (Or.inr rfl)) a0
    have hk : a.toNatClampNeg < 12 := by rw [nd_nat]; omega
    rw [at12 hr] at e
    rw [pu12 hr] at hh
    refine ⟨_, _, _, _, _, e, hh, Eq.trans ?_ ((if_neg a0).trans (if_neg a1)).symm⟩
    rw [if_neg a2]
    show (I 33 a.toNatClampNeg, (I 1 3, I 1 4, I 1 5, I 1 6, I 1 1, I 1 2, I 2 0, I 2 1, I 2 2, I 3 3, I 8 1, fun r => if r < 12 then upd (I 33) a.toNatClampNeg b r else 0)) = ((if a.toNatClampNeg < 12 then I 33 a.toNatClampNeg else 0), (I 1 3, I 1 4, I 1 5, I 1 6, I 1 1, I 1 2, I 2 0, I 2 1, I 2 2, I 3 3, I 8 1, upd (fun r => if r < 12 then I 33 r else 0) a.toNatClampNeg b))
    rw [if_pos hk, cn_upd hk]
  · have hr := rim_lt (b_1 hB 3 (Or.inl rfl)) (b_1 hB 4 (Or.inr rfl)) a0
    have hk : a.toNatClampNeg < 12 := by rw [nd_nat]; omega
    rw [at12 hr] at e
    rw [pu12 hr] at hh
    refine ⟨_, _, _, _, _, e, hh, Eq.trans ?_ ((if_neg a0).trans (if_neg a1)).symm⟩
    rw [if_pos (nn a2)]
    show (I 33 a.toNatClampNeg, (I 1 3, I 1 4, I 1 5, I 1 6, I 1 1, I 1 2, I 2 0, I 2 1, I 2 2, I 3 3, I 8 1, fun r => if r < 12 then upd (I 33) a.toNatClampNeg (-1) r else 0)) = ((if a.toNatClampNeg < 12 then I 33 a.toNatClampNeg else 0), (I 1 3, I 1 4, I 1 5, I 1 6, I 1 1, I 1 2, I 2 0, I 2 1, I 2 2, I 3 3, I 8 1, upd (fun r => if r < 12 then I 33 r else 0) a.toNatClampNeg (-1)))
    rw [if_pos hk, cn_upd hk]
  · exact ⟨_, I, J, R, T, e, hh, (if_pos (nn a0)).symm⟩
theorem kd_count (hB : cx_hB cx_B0 I) (a b : Int32) : ev_W X 182 0 (ez_lay [.ref 35, .int a, .int b]) [] (ev_hp I J R T) 0 0 (kp_E km (kf_count a b) I) := by
  refine ev_call ct_r0 (em_isRim X I J R T a) ?_
  rw [il_0 a, Int32.add_comm (I 35 0) (I 35 1)]
  rintro r h1 c1 k1 ⟨rfl, rfl, rfl, rfl⟩
  refine ev_if ct_r1 (fun x => ?_) (fun x => ev_ret ct_r2 ⟨_, I, J, R, T, rfl, rfl, (if_pos (nn (of_decide_eq_false x))).symm⟩)
  have a0 := of_decide_eq_true x
  refine ev_call ct_r3 (ec_in X _ b.toInt64 0 7) ?_
  rw [il_07 b]
  rintro _ _ _ _ ⟨rfl, rfl, rfl, rfl⟩
  refine ev_if ct_r4 (fun y => ?_) (fun y => ev_ret ct_r5 ⟨_, I, J, R, T, rfl, rfl, ((if_neg a0).trans (if_pos (nn (of_decide_eq_false y)))).symm⟩)
  have a1 := of_decide_eq_true y
  have hr := rim_lt (b_35 hB 0 (Or.inl rfl)) (b_35 hB 1 (Or.inr rfl)) a0
  have hk : a.toNatClampNeg < 12 := by rw [nd_nat]; omega
  refine ev_seg ct_r6 ?_
  refine ev_iald (by rfl) (cx_getI (show cx_Ds[61]? = some (0, 12, []) from rfl)) (fs_ixs hr.1 (by omega)) ?_
  refine ev_if ct_r7 (fun z => ?_) (fun z => ?_)
  · refine ev_seg ct_r9 ?_
    refine ev_iastH (by rfl) (cx_getI (show cx_Ds[61]? = some (0, 12, []) from rfl)) (fs_ixs hr.1 (by omega)) (cx_setI (show cx_Ds[61]? = some (0, 12, []) from rfl) _) ?_
    refine ev_ret ct_r10 ⟨_, _, _, _, _, rfl, rfl, Eq.trans ?_ ((if_neg a0).trans (if_neg a1)).symm⟩
    rw [if_neg (of_decide_eq_true z)]
    show (I 61 a.toNatClampNeg, (I 35 0, I 35 1, I 35 2, I 35 0 * I 35 1, I 35 9, I 35 10, I 35 6, I 35 7, I 35 8, I 35 3, I 35 16, fun r => if r < 12 then upd (I 61) a.toNatClampNeg b r else 0)) = ((if a.toNatClampNeg < 12 then I 61 a.toNatClampNeg else 0), (I 35 0, I 35 1, I 35 2, I 35 0 * I 35 1, I 35 9, I 35 10, I 35 6, I 35 7, I 35 8, I 35 3, I 35 16, upd (fun r => if r < 12 then I 61 r else 0) a.toNatClampNeg b))
    rw [if_pos hk, cn_upd hk]
  · refine ev_seg ct_r8 ?_
    refine ev_iastH (by rfl) (cx_getI (show cx_Ds[61]? = some (0, 12, []) from rfl)) (fs_ixs hr.1 (by omega)) (cx_setI (show cx_Ds[61]? = some (0, 12, []) from rfl) _) ?_
    refine ev_ret ct_r10 ⟨_, _, _, _, _, rfl, rfl, Eq.trans ?_ ((if_neg a0).trans (if_neg a1)).symm⟩
    rw [if_pos (nn (of_decide_eq_false z))]
    show (I 61 a.toNatClampNeg, (I 35 0, I 35 1, I 35 2, I 35 0 * I 35 1, I 35 9, I 35 10, I 35 6, I 35 7, I 35 8, I 35 3, I 35 16, fun r => if r < 12 then upd (I 61) a.toNatClampNeg (-1) r else 0)) = ((if a.toNatClampNeg < 12 then I 61 a.toNatClampNeg else 0), (I 35 0, I 35 1, I 35 2, I 35 0 * I 35 1, I 35 9, I 35 10, I 35 6, I 35 7, I 35 8, I 35 3, I 35 16, upd (fun r => if r < 12 then I 61 r else 0) a.toNatClampNeg (-1)))
    rw [if_pos hk, cn_upd hk]
end
end
