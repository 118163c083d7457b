set_option maxHeartbeats 4000000 in
set_option maxRecDepth 100000 in
theorem lc_rest {p : Program} {l : Launch} {e : Env} {s : State} {m : MethodId} {args : Array Value} {below : List Frame} {meth : Method} {c : Code} {Q : State → Prop} {D : va_G} {C : Nat → ClassId} {A : Nat → Prop} {ax am af ap ab ar a : Nat → Nat} {b LL i : Nat} {xs : Nat → Int32} {N lm om L : Nat} {M Bk Rt Z : Nat → Nat → Int32} {F Pt Y : Nat → Nat → Int64} {fm : Int32} {pi : Nat → Int32} {H : Heap} {locs : List Loc} {ls : Array Slot} (hC : Lc p s m c args D C A b LL xs) (hi : i + 5 ≤ LL) (hsim : SimA M Bk Rt Z N lm om L) (hP : va_P D vwCl (WW ax am af ap ab ar a C M F fm Pt pi Bk Rt Z Y) H) (hD : va_D A (WW ax am af ap ab ar a C M F fm Pt pi Bk Rt Z Y)) (hS : va_S A s.heap H locs) (hl : lv_has ls 4 [(0, .ref b), (1, .ref (ax 0)), (2, .ref (a 0)), (3, .int (nI i))])
    (kk : Lk p l e s m args below meth c Q D C A ax am af ap ab ar a ls) : W p l e room_1 s m args below meth c H locs 600000 7302250 Q (F0 m 385 ls []) := by
  obtain ⟨hx, hb, hml, hown, hW, hX, hbl, hbA, hA, hK, hNw, hLL⟩ := hC
  obtain ⟨hSX, hSB, hSR⟩ := id hsim
  have hN : M 6 0 = nI N := hSX.1.1.2.1
  have hN12 : N ≤ 12 := hSX.1.1.1
  have hZN : Z 12 0 = nI N := hSX.1.1.2.2.1
  have hL : Bk 8 0 = nI L := hSB.1.2.1
  have hL60 : L ≤ 60 := hSB.1.1
  have hZL : Z 12 1 = nI L := hSB.1.2.2.1
  have hRok : rtok Rt := hSR.2.2.1
  refine lv_aload_n hx hb d_law_385 rfl (lv_at hl 1 rfl) ?_
  refine lv_aload_n hx hb d_law_386 rfl (lv_at hl 0 rfl) ?_
  refine lv_iload_n hx hb d_law_387 rfl (lv_at hl 3 rfl) ?_
  refine lv_iconst (v := 1) hx hb d_law_388 (by decide) ?_
  refine lv_iadd hx hb d_law_389 ?_
  refine xsld hx hb hX hbl hbA hS (i + 1) (q_add rfl rfl) (by omega) hLL d_law_390 ?_
  refine lv_aload_n hx hb d_law_391 rfl (lv_at hl 0 rfl) ?_
  refine lv_iload_n hx hb d_law_392 rfl (lv_at hl 3 rfl) ?_
  refine lv_iconst (v := 2) hx hb d_law_393 (by decide) ?_
  refine lv_iadd hx hb d_law_394 ?_
  refine xsld hx hb hX hbl hbA hS (i + 2) (q_add rfl rfl) (by omega) hLL d_law_395 ?_
  refine lv_aload_n hx hb d_law_396 rfl (lv_at hl 0 rfl) ?_
  refine lv_iload_n hx hb d_law_397 rfl (lv_at hl 3 rfl) ?_
  refine lv_iconst (v := 3) hx hb d_law_398 (by decide) ?_
  refine lv_iadd hx hb d_law_399 ?_
  refine xsld hx hb hX hbl hbA hS (i + 3) (q_add rfl rfl) (by omega) hLL d_law_400 ?_
  refine lv_aload_n hx hb d_law_401 rfl (lv_at hl 0 rfl) ?_
  refine lv_iload_n hx hb d_law_402 rfl (lv_at hl 3 rfl) ?_
  refine lv_iconst (v := 4) hx hb d_law_403 (by decide) ?_
  refine lv_iadd hx hb d_law_404 ?_
  refine xsld hx hb hX hbl hbA hS (i + 4) (q_add rfl rfl) (by omega) hLL d_law_405 ?_
  refine gXFM_l (F' := (f6_rest_F M F fm N (xs (i + 1)) (xs (i + 2)) (xs (i + 3)) (xs (i + 4)))) (fm' := (f6_rest_fm M F fm N (xs (i + 1)) (xs (i + 2)) (xs (i + 3)) (xs (i + 4)))) (M' := M) (r := (f6_rest M F fm N (xs (i + 1)) (xs (i + 2)) (xs (i + 3)) (xs (i + 4)))) (rV (As := [.int (xs (i + 1)), .int (xs (i + 2)), .int (xs (i + 3)), .int (xs (i + 4))]) (n := 4) (rest := []) ⟨hx, hb, hml, hown, hW⟩ (kX6_rest l D C ax am af ap ab ar F fm M (xs (i + 1)) (xs (i + 2)) (xs (i + 3)) (xs (i + 4)) H.size N hN hN12) (wa tw387 rfl) (wa tw384 rfl) (wa tw385 rfl) (wa tw386 rfl) (wa tw1 rfl) (by decide +kernel) ⟨(Nat.le_of_ble_eq_true rfl), (Nat.le_of_ble_eq_true rfl)⟩ (pVw (sXFM hP) (tXFM hD) hK hNw 0 rfl rfl) hl.1 rfl (Nat.le_of_ble_eq_true rfl) d_law_406 ⟨(Nat.le_of_ble_eq_true rfl), (Nat.le_of_ble_eq_true rfl)⟩ rfl rfl rfl) hP hD hS hA (fun H locs hP hD hS => ?_)
  refine lv_aload_n hx hb d_law_409 rfl (lv_at hl 2 rfl) ?_
  refine lv_aload_n hx hb d_law_410 rfl (lv_at hl 0 rfl) ?_
  refine lv_iload_n hx hb d_law_411 rfl (lv_at hl 3 rfl) ?_
  refine lv_iconst (v := 1) hx hb d_law_412 (by decide) ?_
  refine lv_iadd hx hb d_law_413 ?_
  refine xsld hx hb hX hbl hbA hS (i + 1) (q_add rfl rfl) (by omega) hLL d_law_414 ?_
  refine lv_aload_n hx hb d_law_415 rfl (lv_at hl 0 rfl) ?_
  refine lv_iload_n hx hb d_law_416 rfl (lv_at hl 3 rfl) ?_
  refine lv_iconst (v := 2) hx hb d_law_417 (by decide) ?_
  refine lv_iadd hx hb d_law_418 ?_
  refine xsld hx hb hX hbl hbA hS (i + 2) (q_add rfl rfl) (by omega) hLL d_law_419 ?_
  refine lv_aload_n hx hb d_law_420 rfl (lv_at hl 0 rfl) ?_
  refine lv_iload_n hx hb d_law_421 rfl (lv_at hl 3 rfl) ?_
  refine lv_iconst (v := 3) hx hb d_law_422 (by decide) ?_
  refine lv_iadd hx hb d_law_423 ?_
  refine xsld hx hb hX hbl hbA hS (i + 3) (q_add rfl rfl) (by omega) hLL d_law_424 ?_
  refine lv_aload_n hx hb d_law_425 rfl (lv_at hl 0 rfl) ?_
  refine lv_iload_n hx hb d_law_426 rfl (lv_at hl 3 rfl) ?_
  refine lv_iconst (v := 4) hx hb d_law_427 (by decide) ?_
  refine lv_iadd hx hb d_law_428 ?_
  refine xsld hx hb hX hbl hbA hS (i + 4) (q_add rfl rfl) (by omega) hLL d_law_429 ?_
  refine gZ_l (Z' := Z) (Y' := (f7_rest_Y Z Y N (xs (i + 1)) (xs (i + 2)) (xs (i + 3)) (xs (i + 4)))) (r := (f7_rest Z Y N (xs (i + 1)) (xs (i + 2)) (xs (i + 3)) (xs (i + 4)))) (rV (As := [.int (xs (i + 1)), .int (xs (i + 2)), .int (xs (i + 3)), .int (xs (i + 4))]) (n := 4) (rest := [.long (f6_rest M F fm N (xs (i + 1)) (xs (i + 2)) (xs (i + 3)) (xs (i + 4)))]) ⟨hx, hb, hml, hown, hW⟩ (kX7_rest l D C a Z Y (xs (i + 1)) (xs (i + 2)) (xs (i + 3)) (xs (i + 4)) H.size N hZN hN12) (wa tw714 rfl) (wa tw711 rfl) (wa tw712 rfl) (wa tw713 rfl) (wa tw8 rfl) (by decide +kernel) ⟨(Nat.le_of_ble_eq_true rfl), (Nat.le_of_ble_eq_true rfl)⟩ (pVw (sZ hP) (tZ hD) hK hNw 0 rfl rfl) hl.1 rfl (Nat.le_of_ble_eq_true rfl) d_law_430 ⟨(Nat.le_of_ble_eq_true rfl), (Nat.le_of_ble_eq_true rfl)⟩ rfl rfl rfl) hP hD hS hA (fun H locs hP hD hS => ?_)
  have E := sim_rest hSX.1 F Y fm (xs (i + 1)) (xs (i + 2)) (xs (i + 3)) (xs (i + 4))
  exact xlcmp_eq (tgt := 880) hx hb d_law_433 d_law_434 (by decide) (fun _ => kk _ _ _ _ _ _ _ _ _ _ _ _ _ _ _ hsim hP hD hS) (fun q => absurd E q)

set_option maxHeartbeats 4000000 in
set_option maxRecDepth 100000 in
theorem lc_spread {p : Program} {l : Launch} {e : Env} {s : State} {m : MethodId} {args : Array Value} {below : List Frame} {meth : Method} {c : Code} {Q : State → Prop} {D : va_G} {C : Nat → ClassId} {A : Nat → Prop} {ax am af ap ab ar a : Nat → Nat} {b LL i : Nat} {xs : Nat → Int32} {N lm om L : Nat} {M Bk Rt Z : Nat → Nat → Int32} {F Pt Y : Nat → Nat → Int64} {fm : Int32} {pi : Nat → Int32} {H : Heap} {locs : List Loc} {ls : Array Slot} (hC : Lc p s m c args D C A b LL xs) (hi : i + 5 ≤ LL) (hsim : SimA M Bk Rt Z N lm om L) (hP : va_P D vwCl (WW ax am af ap ab ar a C M F fm Pt pi Bk Rt Z Y) H) (hD : va_D A (WW ax am af ap ab ar a C M F fm Pt pi Bk Rt Z Y)) (hS : va_S A s.heap H locs) (hl : lv_has ls 4 [(0, .ref b), (1, .ref (ax 0)), (2, .ref (a 0)), (3, .int (nI i))])
    (kk : Lk p l e s m args below meth c Q D C A ax am af ap ab ar a ls) : W p l e room_1 s m args below meth c H locs 600000 7302250 Q (F0 m 439 ls []) := by
  obtain ⟨hx, hb, hml, hown, hW, hX, hbl, hbA, hA, hK, hNw, hLL⟩ := hC
  obtain ⟨hSX, hSB, hSR⟩ := id hsim
  have hN : M 6 0 = nI N := hSX.1.1.2.1
  have hN12 : N ≤ 12 := hSX.1.1.1
  have hZN : Z 12 0 = nI N := hSX.1.1.2.2.1
  have hL : Bk 8 0 = nI L := hSB.1.2.1
  have hL60 : L ≤ 60 := hSB.1.1
  have hZL : Z 12 1 = nI L := hSB.1.2.2.1
  have hRok : rtok Rt := hSR.2.2.1
  refine lv_aload_n hx hb d_law_439 rfl (lv_at hl 1 rfl) ?_
  refine lv_aload_n hx hb d_law_440 rfl (lv_at hl 0 rfl) ?_
  refine lv_iload_n hx hb d_law_441 rfl (lv_at hl 3 rfl) ?_
  refine lv_iconst (v := 1) hx hb d_law_442 (by decide) ?_
  refine lv_iadd hx hb d_law_443 ?_
  refine xsld hx hb hX hbl hbA hS (i + 1) (q_add rfl rfl) (by omega) hLL d_law_444 ?_
  refine lv_aload_n hx hb d_law_445 rfl (lv_at hl 0 rfl) ?_
  refine lv_iload_n hx hb d_law_446 rfl (lv_at hl 3 rfl) ?_
  refine lv_iconst (v := 2) hx hb d_law_447 (by decide) ?_
  refine lv_iadd hx hb d_law_448 ?_
  refine xsld hx hb hX hbl hbA hS (i + 2) (q_add rfl rfl) (by omega) hLL d_law_449 ?_
  refine lv_aload_n hx hb d_law_450 rfl (lv_at hl 0 rfl) ?_
  refine lv_iload_n hx hb d_law_451 rfl (lv_at hl 3 rfl) ?_
  refine lv_iconst (v := 3) hx hb d_law_452 (by decide) ?_
  refine lv_iadd hx hb d_law_453 ?_
  refine xsld hx hb hX hbl hbA hS (i + 3) (q_add rfl rfl) (by omega) hLL d_law_454 ?_
  refine gXFM_l (F' := (f6_spread_F M F fm N (xs (i + 1)) (xs (i + 2)) (xs (i + 3)))) (fm' := (f6_spread_fm M F fm N (xs (i + 1)) (xs (i + 2)) (xs (i + 3)))) (M' := M) (r := (f6_spread M F fm N (xs (i + 1)) (xs (i + 2)) (xs (i + 3)))) (rV (As := [.int (xs (i + 1)), .int (xs (i + 2)), .int (xs (i + 3))]) (n := 3) (rest := []) ⟨hx, hb, hml, hown, hW⟩ (kX6_spread l D C ax am af ap ab ar F fm M (xs (i + 1)) (xs (i + 2)) (xs (i + 3)) H.size N hN hN12) (wa tw396 rfl) (wa tw393 rfl) (wa tw394 rfl) (wa tw395 rfl) (wa tw1 rfl) (by decide +kernel) ⟨(Nat.le_of_ble_eq_true rfl), (Nat.le_of_ble_eq_true rfl)⟩ (pVw (sXFM hP) (tXFM hD) hK hNw 0 rfl rfl) hl.1 rfl (Nat.le_of_ble_eq_true rfl) d_law_455 ⟨(Nat.le_of_ble_eq_true rfl), (Nat.le_of_ble_eq_true rfl)⟩ rfl rfl rfl) hP hD hS hA (fun H locs hP hD hS => ?_)
  refine lv_aload_n hx hb d_law_458 rfl (lv_at hl 2 rfl) ?_
  refine lv_aload_n hx hb d_law_459 rfl (lv_at hl 0 rfl) ?_
  refine lv_iload_n hx hb d_law_460 rfl (lv_at hl 3 rfl) ?_
  refine lv_iconst (v := 1) hx hb d_law_461 (by decide) ?_
  refine lv_iadd hx hb d_law_462 ?_
  refine xsld hx hb hX hbl hbA hS (i + 1) (q_add rfl rfl) (by omega) hLL d_law_463 ?_
  refine lv_aload_n hx hb d_law_464 rfl (lv_at hl 0 rfl) ?_
  refine lv_iload_n hx hb d_law_465 rfl (lv_at hl 3 rfl) ?_
  refine lv_iconst (v := 2) hx hb d_law_466 (by decide) ?_
  refine lv_iadd hx hb d_law_467 ?_
  refine xsld hx hb hX hbl hbA hS (i + 2) (q_add rfl rfl) (by omega) hLL d_law_468 ?_
  refine lv_aload_n hx hb d_law_469 rfl (lv_at hl 0 rfl) ?_
  refine lv_iload_n hx hb d_law_470 rfl (lv_at hl 3 rfl) ?_
  refine lv_iconst (v := 3) hx hb d_law_471 (by decide) ?_
  refine lv_iadd hx hb d_law_472 ?_
  refine xsld hx hb hX hbl hbA hS (i + 3) (q_add rfl rfl) (by omega) hLL d_law_473 ?_
  refine gZ_l (Z' := Z) (Y' := (f7_spread_Y Z Y N (xs (i + 1)) (xs (i + 2)) (xs (i + 3)))) (r := (f7_spread Z Y N (xs (i + 1)) (xs (i + 2)) (xs (i + 3)))) (rV (As := [.int (xs (i + 1)), .int (xs (i + 2)), .int (xs (i + 3))]) (n := 3) (rest := [.long (f6_spread M F fm N (xs (i + 1)) (xs (i + 2)) (xs (i + 3)))]) ⟨hx, hb, hml, hown, hW⟩ (kX7_spread l D C a Z Y (xs (i + 1)) (xs (i + 2)) (xs (i + 3)) H.size N hZN hN12) (wa tw723 rfl) (wa tw720 rfl) (wa tw721 rfl) (wa tw722 rfl) (wa tw8 rfl) (by decide +kernel) ⟨(Nat.le_of_ble_eq_true rfl), (Nat.le_of_ble_eq_true rfl)⟩ (pVw (sZ hP) (tZ hD) hK hNw 0 rfl rfl) hl.1 rfl (Nat.le_of_ble_eq_true rfl) d_law_474 ⟨(Nat.le_of_ble_eq_true rfl), (Nat.le_of_ble_eq_true rfl)⟩ rfl rfl rfl) hP hD hS hA (fun H locs hP hD hS => ?_)
  have E := sim_spread hSX.1 F Y fm (xs (i + 1)) (xs (i + 2)) (xs (i + 3))
  exact xlcmp_eq (tgt := 880) hx hb d_law_477 d_law_478 (by decide) (fun _ => kk _ _ _ _ _ _ _ _ _ _ _ _ _ _ _ hsim hP hD hS) (fun q => absurd E q)

set_option maxHeartbeats 4000000 in
set_option maxRecDepth 100000 in
theorem lc_judge {p : Program} {l : Launch} {e : Env} {s : State} {m : MethodId} {args : Array Value} {below : List Frame} {meth : Method} {c : Code} {Q : State → Prop} {D : va_G} {C : Nat → ClassId} {A : Nat → Prop} {ax am af ap ab ar a : Nat → Nat} {b LL i : Nat} {xs : Nat → Int32} {N lm om L : Nat} {M Bk Rt Z : Nat → Nat → Int32} {F Pt Y : Nat → Nat → Int64} {fm : Int32} {pi : Nat → Int32} {H : Heap} {locs : List Loc} {ls : Array Slot} (hC : Lc p s m c args D C A b LL xs) (hi : i + 5 ≤ LL) (hsim : SimA M Bk Rt Z N lm om L) (hP : va_P D vwCl (WW ax am af ap ab ar a C M F fm Pt pi Bk Rt Z Y) H) (hD : va_D A (WW ax am af ap ab ar a C M F fm Pt pi Bk Rt Z Y)) (hS : va_S A s.heap H locs) (hl : lv_has ls 4 [(0, .ref b), (1, .ref (ax 0)), (2, .ref (a 0)), (3, .int (nI i))])
    (kk : Lk p l e s m args below meth c Q D C A ax am af ap ab ar a ls) : W p l e room_1 s m args below meth c H locs 600000 7302250 Q (F0 m 483 ls []) := by
  obtain ⟨hx, hb, hml, hown, hW, hX, hbl, hbA, hA, hK, hNw, hLL⟩ := hC
  obtain ⟨hSX, hSB, hSR⟩ := id hsim
  have hN : M 6 0 = nI N := hSX.1.1.2.1
  have hN12 : N ≤ 12 := hSX.1.1.1
  have hZN : Z 12 0 = nI N := hSX.1.1.2.2.1
  have hL : Bk 8 0 = nI L := hSB.1.2.1
  have hL60 : L ≤ 60 := hSB.1.1
  have hZL : Z 12 1 = nI L := hSB.1.2.2.1
  have hRok : rtok Rt := hSR.2.2.1
  refine lv_aload_n hx hb d_law_483 rfl (lv_at hl 1 rfl) ?_
  refine lv_aload_n hx hb d_law_484 rfl (lv_at hl 0 rfl) ?_
  refine lv_iload_n hx hb d_law_485 rfl (lv_at hl 3 rfl) ?_
  refine lv_iconst (v := 1) hx hb d_law_486 (by decide) ?_
  refine lv_iadd hx hb d_law_487 ?_
  refine xsld hx hb hX hbl hbA hS (i + 1) (q_add rfl rfl) (by omega) hLL d_law_488 ?_
  refine lv_aload_n hx hb d_law_489 rfl (lv_at hl 0 rfl) ?_
  refine lv_iload_n hx hb d_law_490 rfl (lv_at hl 3 rfl) ?_
  refine lv_iconst (v := 2) hx hb d_law_491 (by decide) ?_
  refine lv_iadd hx hb d_law_492 ?_
  refine xsld hx hb hX hbl hbA hS (i + 2) (q_add rfl rfl) (by omega) hLL d_law_493 ?_
  refine gXFM_i (F' := (f6_judge_F M F fm N (xs (i + 1)) (xs (i + 2)))) (fm' := (f6_judge_fm M F fm N (xs (i + 1)) (xs (i + 2)))) (M' := (f6_judge_M M F fm N (xs (i + 1)) (xs (i + 2)))) (r := (f6_judge M F fm N (xs (i + 1)) (xs (i + 2)))) (rV (As := [.int (xs (i + 1)), .int (xs (i + 2))]) (n := 2) (rest := []) ⟨hx, hb, hml, hown, hW⟩ (kX6_judge l D C ax am af ap ab ar F fm M (xs (i + 1)) (xs (i + 2)) H.size N hN hN12) (wa tw404 rfl) (wa tw401 rfl) (wa tw402 rfl) (wa tw403 rfl) (wa tw1 rfl) (by decide +kernel) ⟨(Nat.le_of_ble_eq_true rfl), (Nat.le_of_ble_eq_true rfl)⟩ (pVw (sXFM hP) (tXFM hD) hK hNw 0 rfl rfl) hl.1 rfl (Nat.le_of_ble_eq_true rfl) d_law_494 ⟨(Nat.le_of_ble_eq_true rfl), (Nat.le_of_ble_eq_true rfl)⟩ rfl rfl rfl) hP hD hS hA (fun H locs hP hD hS => ?_)
  refine lv_aload_n hx hb d_law_497 rfl (lv_at hl 2 rfl) ?_
  refine lv_aload_n hx hb d_law_498 rfl (lv_at hl 0 rfl) ?_
  refine lv_iload_n hx hb d_law_499 rfl (lv_at hl 3 rfl) ?_
  refine lv_iconst (v := 1) hx hb d_law_500 (by decide) ?_
  refine lv_iadd hx hb d_law_501 ?_
  refine xsld hx hb hX hbl hbA hS (i + 1) (q_add rfl rfl) (by omega) hLL d_law_502 ?_
  refine lv_aload_n hx hb d_law_503 rfl (lv_at hl 0 rfl) ?_
  refine lv_iload_n hx hb d_law_504 rfl (lv_at hl 3 rfl) ?_
  refine lv_iconst (v := 2) hx hb d_law_505 (by decide) ?_
  refine lv_iadd hx hb d_law_506 ?_
  refine xsld hx hb hX hbl hbA hS (i + 2) (q_add rfl rfl) (by omega) hLL d_law_507 ?_
  refine gZ_i (Z' := (f7_judge_Z Z Y N (cN N lm) (xs (i + 1)) (xs (i + 2)))) (Y' := (f7_judge_Y Z Y N (cN N lm) (xs (i + 1)) (xs (i + 2)))) (r := (f7_judge Z Y N (cN N lm) (xs (i + 1)) (xs (i + 2)))) (rV (As := [.int (xs (i + 1)), .int (xs (i + 2))]) (n := 2) (rest := [.int (f6_judge M F fm N (xs (i + 1)) (xs (i + 2)))]) ⟨hx, hb, hml, hown, hW⟩ (kX7_judge l D C a Z Y (xs (i + 1)) (xs (i + 2)) H.size N hZN hN12 M lm om hSX.1 (cN N lm) (jsN hSX.1) (lt4096 (cN_lt N lm) hN12)) (wa tw727 rfl) (wa tw724 rfl) (wa tw725 rfl) (wa tw726 rfl) (wa tw8 rfl) (by decide +kernel) ⟨(Nat.le_of_ble_eq_true rfl), (Nat.le_of_ble_eq_true rfl)⟩ (pVw (sZ hP) (tZ hD) hK hNw 0 rfl rfl) hl.1 rfl (Nat.le_of_ble_eq_true rfl) d_law_508 ⟨(Nat.le_of_ble_eq_true rfl), (Nat.le_of_ble_eq_true rfl)⟩ rfl rfl rfl) hP hD hS hA (fun H locs hP hD hS => ?_)
  obtain ⟨E, om2, hX2⟩ := sim_judge hSX F Y fm (xs (i + 1)) (xs (i + 2))
  exact lv_icmp_eq (tgt := 880) hx hb d_law_511 (by decide) (fun _ => kk _ _ _ _ _ _ _ _ _ _ _ _ _ _ _ ⟨hX2, SimB_fr hSB (frB_judge Z Y N (cN N lm) (xs (i + 1)) (xs (i + 2))), SimR_fr hSR (frR_judge Z Y N (cN N lm) (xs (i + 1)) (xs (i + 2)))⟩ hP hD hS) (fun q => absurd E q)

set_option maxHeartbeats 4000000 in
set_option maxRecDepth 100000 in
theorem lc_plan {p : Program} {l : Launch} {e : Env} {s : State} {m : MethodId} {args : Array Value} {below : List Frame} {meth : Method} {c : Code} {Q : State → Prop} {D : va_G} {C : Nat → ClassId} {A : Nat → Prop} {ax am af ap ab ar a : Nat → Nat} {b LL i : Nat} {xs : Nat → Int32} {N lm om L : Nat} {M Bk Rt Z : Nat → Nat → Int32} {F Pt Y : Nat → Nat → Int64} {fm : Int32} {pi : Nat → Int32} {H : Heap} {locs : List Loc} {ls : Array Slot} (hC : Lc p s m c args D C A b LL xs) (hi : i + 5 ≤ LL) (hsim : SimA M Bk Rt Z N lm om L) (hP : va_P D vwCl (WW ax am af ap ab ar a C M F fm Pt pi Bk Rt Z Y) H) (hD : va_D A (WW ax am af ap ab ar a C M F fm Pt pi Bk Rt Z Y)) (hS : va_S A s.heap H locs) (hl : lv_has ls 4 [(0, .ref b), (1, .ref (ax 0)), (2, .ref (a 0)), (3, .int (nI i))])
    (kk : Lk p l e s m args below meth c Q D C A ax am af ap ab ar a ls) : W p l e room_1 s m args below meth c H locs 600000 7302250 Q (F0 m 516 ls []) := by
  obtain ⟨hx, hb, hml, hown, hW, hX, hbl, hbA, hA, hK, hNw, hLL⟩ := hC
  obtain ⟨hSX, hSB, hSR⟩ := id hsim
  have hN : M 6 0 = nI N := hSX.1.1.2.1
  have hN12 : N ≤ 12 := hSX.1.1.1
  have hZN : Z 12 0 = nI N := hSX.1.1.2.2.1
  have hL : Bk 8 0 = nI L := hSB.1.2.1
  have hL60 : L ≤ 60 := hSB.1.1
  have hZL : Z 12 1 = nI L := hSB.1.2.2.1
  have hRok : rtok Rt := hSR.2.2.1
  refine lv_aload_n hx hb d_law_516 rfl (lv_at hl 1 rfl) ?_
  refine lv_aload_n hx hb d_law_517 rfl (lv_at hl 0 rfl) ?_
  refine lv_iload_n hx hb d_law_518 rfl (lv_at hl 3 rfl) ?_
  refine lv_iconst (v := 1) hx hb d_law_519 (by decide) ?_
  refine lv_iadd hx hb d_law_520 ?_
  refine xsld hx hb hX hbl hbA hS (i + 1) (q_add rfl rfl) (by omega) hLL d_law_521 ?_
  refine lv_aload_n hx hb d_law_522 rfl (lv_at hl 0 rfl) ?_
  refine lv_iload_n hx hb d_law_523 rfl (lv_at hl 3 rfl) ?_
  refine lv_iconst (v := 2) hx hb d_law_524 (by decide) ?_
  refine lv_iadd hx hb d_law_525 ?_
  refine xsld hx hb hX hbl hbA hS (i + 2) (q_add rfl rfl) (by omega) hLL d_law_526 ?_
  refine lv_aload_n hx hb d_law_527 rfl (lv_at hl 0 rfl) ?_
  refine lv_iload_n hx hb d_law_528 rfl (lv_at hl 3 rfl) ?_
  refine lv_iconst (v := 3) hx hb d_law_529 (by decide) ?_
  refine lv_iadd hx hb d_law_530 ?_
  refine xsld hx hb hX hbl hbA hS (i + 3) (q_add rfl rfl) (by omega) hLL d_law_531 ?_
  refine gXPM_l (Pt' := (f6_plan_Pt M Pt pi N (xs (i + 1)) (xs (i + 2)) (xs (i + 3)))) (pi' := (f6_plan_pi M Pt pi N (xs (i + 1)) (xs (i + 2)) (xs (i + 3)))) (r := (f6_plan M Pt pi N (xs (i + 1)) (xs (i + 2)) (xs (i + 3)))) (rV (As := [.int (xs (i + 1)), .int (xs (i + 2)), .int (xs (i + 3))]) (n := 3) (rest := []) ⟨hx, hb, hml, hown, hW⟩ (kX6_plan l D C ax am af ap ab ar Pt pi M (xs (i + 1)) (xs (i + 2)) (xs (i + 3)) H.size N hN hN12) (wa tw433 rfl) (wa tw430 rfl) (wa tw431 rfl) (wa tw432 rfl) (wa tw1 rfl) (by decide +kernel) ⟨(Nat.le_of_ble_eq_true rfl), (Nat.le_of_ble_eq_true rfl)⟩ (pVw (sXPM hP) (tXPM hD) hK hNw 0 rfl rfl) hl.1 rfl (Nat.le_of_ble_eq_true rfl) d_law_532 ⟨(Nat.le_of_ble_eq_true rfl), (Nat.le_of_ble_eq_true rfl)⟩ rfl rfl rfl) hP hD hS hA (fun H locs hP hD hS => ?_)
  refine lv_aload_n hx hb d_law_535 rfl (lv_at hl 2 rfl) ?_
  refine lv_aload_n hx hb d_law_536 rfl (lv_at hl 0 rfl) ?_
  refine lv_iload_n hx hb d_law_537 rfl (lv_at hl 3 rfl) ?_
  refine lv_iconst (v := 1) hx hb d_law_538 (by decide) ?_
  refine lv_iadd hx hb d_law_539 ?_
  refine xsld hx hb hX hbl hbA hS (i + 1) (q_add rfl rfl) (by omega) hLL d_law_540 ?_
  refine lv_aload_n hx hb d_law_541 rfl (lv_at hl 0 rfl) ?_
  refine lv_iload_n hx hb d_law_542 rfl (lv_at hl 3 rfl) ?_
  refine lv_iconst (v := 2) hx hb d_law_543 (by decide) ?_
  refine lv_iadd hx hb d_law_544 ?_
  refine xsld hx hb hX hbl hbA hS (i + 2) (q_add rfl rfl) (by omega) hLL d_law_545 ?_
  refine lv_aload_n hx hb d_law_546 rfl (lv_at hl 0 rfl) ?_
  refine lv_iload_n hx hb d_law_547 rfl (lv_at hl 3 rfl) ?_
  refine lv_iconst (v := 3) hx hb d_law_548 (by decide) ?_
  refine lv_iadd hx hb d_law_549 ?_
  refine xsld hx hb hX hbl hbA hS (i + 3) (q_add rfl rfl) (by omega) hLL d_law_550 ?_
  refine gZ_l (Z' := Z) (Y' := (f7_plan_Y Z Y N (xs (i + 1)) (xs (i + 2)) (xs (i + 3)))) (r := (f7_plan Z Y N (xs (i + 1)) (xs (i + 2)) (xs (i + 3)))) (rV (As := [.int (xs (i + 1)), .int (xs (i + 2)), .int (xs (i + 3))]) (n := 3) (rest := [.long (f6_plan M Pt pi N (xs (i + 1)) (xs (i + 2)) (xs (i + 3)))]) ⟨hx, hb, hml, hown, hW⟩ (kX7_plan l D C a Z Y (xs (i + 1)) (xs (i + 2)) (xs (i + 3)) H.size N hZN hN12) (wa tw737 rfl) (wa tw734 rfl) (wa tw735 rfl) (wa tw736 rfl) (wa tw8 rfl) (by decide +kernel) ⟨(Nat.le_of_ble_eq_true rfl), (Nat.le_of_ble_eq_true rfl)⟩ (pVw (sZ hP) (tZ hD) hK hNw 0 rfl rfl) hl.1 rfl (Nat.le_of_ble_eq_true rfl) d_law_551 ⟨(Nat.le_of_ble_eq_true rfl), (Nat.le_of_ble_eq_true rfl)⟩ rfl rfl rfl) hP hD hS hA (fun H locs hP hD hS => ?_)
  have E := sim_plan hSX.1 Pt Y pi (xs (i + 1)) (xs (i + 2)) (xs (i + 3))
  exact xlcmp_eq (tgt := 880) hx hb d_law_554 d_law_555 (by decide) (fun _ => kk _ _ _ _ _ _ _ _ _ _ _ _ _ _ _ hsim hP hD hS) (fun q => absurd E q)

set_option maxHeartbeats 4000000 in
set_option maxRecDepth 100000 in
theorem lc_lot {p : Program} {l : Launch} {e : Env} {s : State} {m : MethodId} {args : Array Value} {below : List Frame} {meth : Method} {c : Code} {Q : State → Prop} {D : va_G} {C : Nat → ClassId} {A : Nat → Prop} {ax am af ap ab ar a : Nat → Nat} {b LL i : Nat} {xs : Nat → Int32} {N lm om L : Nat} {M Bk Rt Z : Nat → Nat → Int32} {F Pt Y : Nat → Nat → Int64} {fm : Int32} {pi : Nat → Int32} {H : Heap} {locs : List Loc} {ls : Array Slot} (hC : Lc p s m c args D C A b LL xs) (hi : i + 5 ≤ LL) (hsim : SimA M Bk Rt Z N lm om L) (hP : va_P D vwCl (WW ax am af ap ab ar a C M F fm Pt pi Bk Rt Z Y) H) (hD : va_D A (WW ax am af ap ab ar a C M F fm Pt pi Bk Rt Z Y)) (hS : va_S A s.heap H locs) (hl : lv_has ls 4 [(0, .ref b), (1, .ref (ax 0)), (2, .ref (a 0)), (3, .int (nI i))])
    (kk : Lk p l e s m args below meth c Q D C A ax am af ap ab ar a ls) : W p l e room_1 s m args below meth c H locs 600000 7302250 Q (F0 m 560 ls []) := by
  obtain ⟨hx, hb, hml, hown, hW, hX, hbl, hbA, hA, hK, hNw, hLL⟩ := hC
  obtain ⟨hSX, hSB, hSR⟩ := id hsim
  have hN : M 6 0 = nI N := hSX.1.1.2.1
  have hN12 : N ≤ 12 := hSX.1.1.1
  have hZN : Z 12 0 = nI N := hSX.1.1.2.2.1
  have hL : Bk 8 0 = nI L := hSB.1.2.1
  have hL60 : L ≤ 60 := hSB.1.1
  have hZL : Z 12 1 = nI L := hSB.1.2.2.1
  have hRok : rtok Rt := hSR.2.2.1
  refine lv_aload_n hx hb d_law_560 rfl (lv_at hl 1 rfl) ?_
  refine lv_aload_n hx hb d_law_561 rfl (lv_at hl 0 rfl) ?_
  refine lv_iload_n hx hb d_law_562 rfl (lv_at hl 3 rfl) ?_
  refine lv_iconst (v := 1) hx hb d_law_563 (by decide) ?_
  refine lv_iadd hx hb d_law_564 ?_
  refine xsld hx hb hX hbl hbA hS (i + 1) (q_add rfl rfl) (by omega) hLL d_law_565 ?_
  refine lv_aload_n hx hb d_law_566 rfl (lv_at hl 0 rfl) ?_
  refine lv_iload_n hx hb d_law_567 rfl (lv_at hl 3 rfl) ?_
  refine lv_iconst (v := 2) hx hb d_law_568 (by decide) ?_
  refine lv_iadd hx hb d_law_569 ?_
  refine xsld hx hb hX hbl hbA hS (i + 2) (q_add rfl rfl) (by omega) hLL d_law_570 ?_
  refine gXB_i (Bk' := (f6_lot_Bk Bk L (xs (i + 1)) (xs (i + 2)))) (r := (f6_lot Bk L (xs (i + 1)) (xs (i + 2)))) (rV (As := [.int (xs (i + 1)), .int (xs (i + 2))]) (n := 2) (rest := []) ⟨hx, hb, hml, hown, hW⟩ (kX6_lot l D C ax am af ap ab ar Bk (xs (i + 1)) (xs (i + 2)) H.size L hL hL60) (wa tw464 rfl) (wa tw461 rfl) (wa tw462 rfl) (wa tw463 rfl) (wa tw1 rfl) (by decide +kernel) ⟨(Nat.le_of_ble_eq_true rfl), (Nat.le_of_ble_eq_true rfl)⟩ (pVw (sXB hP) (tXB hD) hK hNw 0 rfl rfl) hl.1 rfl (Nat.le_of_ble_eq_true rfl) d_law_571 ⟨(Nat.le_of_ble_eq_true rfl), (Nat.le_of_ble_eq_true rfl)⟩ rfl rfl rfl) hP hD hS hA (fun H locs hP hD hS => ?_)
  refine lv_aload_n hx hb d_law_574 rfl (lv_at hl 2 rfl) ?_
  refine lv_aload_n hx hb d_law_575 rfl (lv_at hl 0 rfl) ?_
  refine lv_iload_n hx hb d_law_576 rfl (lv_at hl 3 rfl) ?_
  refine lv_iconst (v := 1) hx hb d_law_577 (by decide) ?_
  refine lv_iadd hx hb d_law_578 ?_
  refine xsld hx hb hX hbl hbA hS (i + 1) (q_add rfl rfl) (by omega) hLL d_law_579 ?_
  refine lv_aload_n hx hb d_law_580 rfl (lv_at hl 0 rfl) ?_
  refine lv_iload_n hx hb d_law_581 rfl (lv_at hl 3 rfl) ?_
  refine lv_iconst (v := 2) hx hb d_law_582 (by decide) ?_
  refine lv_iadd hx hb d_law_583 ?_
  refine xsld hx hb hX hbl hbA hS (i + 2) (q_add rfl rfl) (by omega) hLL d_law_584 ?_
  refine gZ_i (Z' := (f7_lot_Z Z L (xs (i + 1)) (xs (i + 2)))) (Y' := Y) (r := (f7_lot Z L (xs (i + 1)) (xs (i + 2)))) (rV (As := [.int (xs (i + 1)), .int (xs (i + 2))]) (n := 2) (rest := [.int (f6_lot Bk L (xs (i + 1)) (xs (i + 2)))]) ⟨hx, hb, hml, hown, hW⟩ (kX7_lot l D C a Z Y (xs (i + 1)) (xs (i + 2)) H.size L hZL hL60) (wa tw749 rfl) (wa tw746 rfl) (wa tw747 rfl) (wa tw748 rfl) (wa tw8 rfl) (by decide +kernel) ⟨(Nat.le_of_ble_eq_true rfl), (Nat.le_of_ble_eq_true rfl)⟩ (pVw (sZ hP) (tZ hD) hK hNw 0 rfl rfl) hl.1 rfl (Nat.le_of_ble_eq_true rfl) d_law_585 ⟨(Nat.le_of_ble_eq_true rfl), (Nat.le_of_ble_eq_true rfl)⟩ rfl rfl rfl) hP hD hS hA (fun H locs hP hD hS => ?_)
  obtain ⟨E, L2, hB2⟩ := sim_lot hSB (xs (i + 1)) (xs (i + 2))
  exact lv_icmp_eq (tgt := 880) hx hb d_law_588 (by decide) (fun _ => kk _ _ _ _ _ _ _ _ _ _ _ _ _ _ _ ⟨SimX_fr hSX (frX_lot Z L (xs (i + 1)) (xs (i + 2))), hB2, SimR_fr hSR (frR_lot Z L (xs (i + 1)) (xs (i + 2)))⟩ hP hD hS) (fun q => absurd E q)

set_option maxHeartbeats 4000000 in
set_option maxRecDepth 100000 in
theorem lc_back {p : Program} {l : Launch} {e : Env} {s : State} {m : MethodId} {args : Array Value} {below : List Frame} {meth : Method} {c : Code} {Q : State → Prop} {D : va_G} {C : Nat → ClassId} {A : Nat → Prop} {ax am af ap ab ar a : Nat → Nat} {b LL i : Nat} {xs : Nat → Int32} {N lm om L : Nat} {M Bk Rt Z : Nat → Nat → Int32} {F Pt Y : Nat → Nat → Int64} {fm : Int32} {pi : Nat → Int32} {H : Heap} {locs : List Loc} {ls : Array Slot} (hC : Lc p s m c args D C A b LL xs) (hi : i + 5 ≤ LL) (hsim : SimA M Bk Rt Z N lm om L) (hP : va_P D vwCl (WW ax am af ap ab ar a C M F fm Pt pi Bk Rt Z Y) H) (hD : va_D A (WW ax am af ap ab ar a C M F fm Pt pi Bk Rt Z Y)) (hS : va_S A s.heap H locs) (hl : lv_has ls 4 [(0, .ref b), (1, .ref (ax 0)), (2, .ref (a 0)), (3, .int (nI i))])
    (kk : Lk p l e s m args below meth c Q D C A ax am af ap ab ar a ls) : W p l e room_1 s m args below meth c H locs 600000 7302250 Q (F0 m 593 ls []) := by
  obtain ⟨hx, hb, hml, hown, hW, hX, hbl, hbA, hA, hK, hNw, hLL⟩ := hC
  obtain ⟨hSX, hSB, hSR⟩ := id hsim
  have hN : M 6 0 = nI N := hSX.1.1.2.1
  have hN12 : N ≤ 12 := hSX.1.1.1
  have hZN : Z 12 0 = nI N := hSX.1.1.2.2.1
  have hL : Bk 8 0 = nI L := hSB.1.2.1
  have hL60 : L ≤ 60 := hSB.1.1
  have hZL : Z 12 1 = nI L := hSB.1.2.2.1
  have hRok : rtok Rt := hSR.2.2.1
  refine lv_aload_n hx hb d_law_593 rfl (lv_at hl 1 rfl) ?_
  refine lv_aload_n hx hb d_law_594 rfl (lv_at hl 0 rfl) ?_
  refine lv_iload_n hx hb d_law_595 rfl (lv_at hl 3 rfl) ?_
  refine lv_iconst (v := 1) hx hb d_law_596 (by decide) ?_
  refine lv_iadd hx hb d_law_597 ?_
  refine xsld hx hb hX hbl hbA hS (i + 1) (q_add rfl rfl) (by omega) hLL d_law_598 ?_
  refine lv_aload_n hx hb d_law_599 rfl (lv_at hl 0 rfl) ?_
  refine lv_iload_n hx hb d_law_600 rfl (lv_at hl 3 rfl) ?_
  refine lv_iconst (v := 2) hx hb d_law_601 (by decide) ?_
  refine lv_iadd hx hb d_law_602 ?_
  refine xsld hx hb hX hbl hbA hS (i + 2) (q_add rfl rfl) (by omega) hLL d_law_603 ?_
  refine gXB_i (Bk' := (f6_back_Bk Bk (xs (i + 1)) (xs (i + 2)))) (r := (f6_back Bk (xs (i + 1)) (xs (i + 2)))) (rV (As := [.int (xs (i + 1)), .int (xs (i + 2))]) (n := 2) (rest := []) ⟨hx, hb, hml, hown, hW⟩ (kX6_back l D C ax am af ap ab ar Bk (xs (i + 1)) (xs (i + 2)) H.size L hL hL60) (wa tw472 rfl) (wa tw469 rfl) (wa tw470 rfl) (wa tw471 rfl) (wa tw1 rfl) (by decide +kernel) ⟨(Nat.le_of_ble_eq_true rfl), (Nat.le_of_ble_eq_true rfl)⟩ (pVw (sXB hP) (tXB hD) hK hNw 0 rfl rfl) hl.1 rfl (Nat.le_of_ble_eq_true rfl) d_law_604 ⟨(Nat.le_of_ble_eq_true rfl), (Nat.le_of_ble_eq_true rfl)⟩ rfl rfl rfl) hP hD hS hA (fun H locs hP hD hS => ?_)
  refine lv_aload_n hx hb d_law_607 rfl (lv_at hl 2 rfl) ?_
  refine lv_aload_n hx hb d_law_608 rfl (lv_at hl 0 rfl) ?_
  refine lv_iload_n hx hb d_law_609 rfl (lv_at hl 3 rfl) ?_
  refine lv_iconst (v := 1) hx hb d_law_610 (by decide) ?_
  refine lv_iadd hx hb d_law_611 ?_
  refine xsld hx hb hX hbl hbA hS (i + 1) (q_add rfl rfl) (by omega) hLL d_law_612 ?_
  refine lv_aload_n hx hb d_law_613 rfl (lv_at hl 0 rfl) ?_
  refine lv_iload_n hx hb d_law_614 rfl (lv_at hl 3 rfl) ?_
  refine lv_iconst (v := 2) hx hb d_law_615 (by decide) ?_
  refine lv_iadd hx hb d_law_616 ?_
  refine xsld hx hb hX hbl hbA hS (i + 2) (q_add rfl rfl) (by omega) hLL d_law_617 ?_
  refine gZ_i (Z' := (f7_back_Z Z (xs (i + 1)) (xs (i + 2)))) (Y' := Y) (r := (f7_back Z (xs (i + 1)) (xs (i + 2)))) (rV (As := [.int (xs (i + 1)), .int (xs (i + 2))]) (n := 2) (rest := [.int (f6_back Bk (xs (i + 1)) (xs (i + 2)))]) ⟨hx, hb, hml, hown, hW⟩ (kX7_back l D C a Z Y (xs (i + 1)) (xs (i + 2)) H.size L hZL hL60) (wa tw758 rfl) (wa tw755 rfl) (wa tw756 rfl) (wa tw757 rfl) (wa tw8 rfl) (by decide +kernel) ⟨(Nat.le_of_ble_eq_true rfl), (Nat.le_of_ble_eq_true rfl)⟩ (pVw (sZ hP) (tZ hD) hK hNw 0 rfl rfl) hl.1 rfl (Nat.le_of_ble_eq_true rfl) d_law_618 ⟨(Nat.le_of_ble_eq_true rfl), (Nat.le_of_ble_eq_true rfl)⟩ rfl rfl rfl) hP hD hS hA (fun H locs hP hD hS => ?_)
  obtain ⟨E, hB2⟩ := sim_back hSB (xs (i + 1)) (xs (i + 2))
  exact lv_icmp_eq (tgt := 880) hx hb d_law_621 (by decide) (fun _ => kk _ _ _ _ _ _ _ _ _ _ _ _ _ _ _ ⟨SimX_fr hSX (frX_back Z (xs (i + 1)) (xs (i + 2))), hB2, SimR_fr hSR (frR_back Z (xs (i + 1)) (xs (i + 2)))⟩ hP hD hS) (fun q => absurd E q)

set_option maxHeartbeats 4000000 in
set_option maxRecDepth 100000 in
theorem lc_mend {p : Program} {l : Launch} {e : Env} {s : State} {m : MethodId} {args : Array Value} {below : List Frame} {meth : Method} {c : Code} {Q : State → Prop} {D : va_G} {C : Nat → ClassId} {A : Nat → Prop} {ax am af ap ab ar a : Nat → Nat} {b LL i : Nat} {xs : Nat → Int32} {N lm om L : Nat} {M Bk Rt Z : Nat → Nat → Int32} {F Pt Y : Nat → Nat → Int64} {fm : Int32} {pi : Nat → Int32} {H : Heap} {locs : List Loc} {ls : Array Slot} (hC : Lc p s m c args D C A b LL xs) (hi : i + 5 ≤ LL) (hsim : SimA M Bk Rt Z N lm om L) (hP : va_P D vwCl (WW ax am af ap ab ar a C M F fm Pt pi Bk Rt Z Y) H) (hD : va_D A (WW ax am af ap ab ar a C M F fm Pt pi Bk Rt Z Y)) (hS : va_S A s.heap H locs) (hl : lv_has ls 4 [(0, .ref b), (1, .ref (ax 0)), (2, .ref (a 0)), (3, .int (nI i))])
    (kk : Lk p l e s m args below meth c Q D C A ax am af ap ab ar a ls) : W p l e room_1 s m args below meth c H locs 600000 7302250 Q (F0 m 626 ls []) := by
  obtain ⟨hx, hb, hml, hown, hW, hX, hbl, hbA, hA, hK, hNw, hLL⟩ := hC
  obtain ⟨hSX, hSB, hSR⟩ := id hsim
  have hN : M 6 0 = nI N := hSX.1.1.2.1
  have hN12 : N ≤ 12 := hSX.1.1.1
  have hZN : Z 12 0 = nI N := hSX.1.1.2.2.1
  have hL : Bk 8 0 = nI L := hSB.1.2.1
  have hL60 : L ≤ 60 := hSB.1.1
  have hZL : Z 12 1 = nI L := hSB.1.2.2.1
  have hRok : rtok Rt := hSR.2.2.1
  refine lv_aload_n hx hb d_law_626 rfl (lv_at hl 1 rfl) ?_
  refine lv_aload_n hx hb d_law_627 rfl (lv_at hl 0 rfl) ?_
  refine lv_iload_n hx hb d_law_628 rfl (lv_at hl 3 rfl) ?_
  refine lv_iconst (v := 1) hx hb d_law_629 (by decide) ?_
  refine lv_iadd hx hb d_law_630 ?_
  refine xsld hx hb hX hbl hbA hS (i + 1) (q_add rfl rfl) (by omega) hLL d_law_631 ?_
  refine gXB_i (Bk' := (f6_mend_Bk Bk L (xs (i + 1)))) (r := (f6_mend Bk L (xs (i + 1)))) (rV (As := [.int (xs (i + 1))]) (n := 1) (rest := []) ⟨hx, hb, hml, hown, hW⟩ (kX6_mend l D C ax am af ap ab ar Bk (xs (i + 1)) H.size L hL hL60) (wa tw484 rfl) (wa tw481 rfl) (wa tw482 rfl) (wa tw483 rfl) (wa tw1 rfl) (by decide +kernel) ⟨(Nat.le_of_ble_eq_true rfl), (Nat.le_of_ble_eq_true rfl)⟩ (pVw (sXB hP) (tXB hD) hK hNw 0 rfl rfl) hl.1 rfl (Nat.le_of_ble_eq_true rfl) d_law_632 ⟨(Nat.le_of_ble_eq_true rfl), (Nat.le_of_ble_eq_true rfl)⟩ rfl rfl rfl) hP hD hS hA (fun H locs hP hD hS => ?_)
  refine lv_aload_n hx hb d_law_635 rfl (lv_at hl 2 rfl) ?_
  refine lv_aload_n hx hb d_law_636 rfl (lv_at hl 0 rfl) ?_
  refine lv_iload_n hx hb d_law_637 rfl (lv_at hl 3 rfl) ?_
  refine lv_iconst (v := 1) hx hb d_law_638 (by decide) ?_
  refine lv_iadd hx hb d_law_639 ?_
  refine xsld hx hb hX hbl hbA hS (i + 1) (q_add rfl rfl) (by omega) hLL d_law_640 ?_
  refine gZ_i (Z' := (f7_mend_Z Z L (xs (i + 1)))) (Y' := Y) (r := (f7_mend Z L (xs (i + 1)))) (rV (As := [.int (xs (i + 1))]) (n := 1) (rest := [.int (f6_mend Bk L (xs (i + 1)))]) ⟨hx, hb, hml, hown, hW⟩ (kX7_mend l D C a Z Y (xs (i + 1)) H.size L hZL hL60) (wa tw762 rfl) (wa tw759 rfl) (wa tw760 rfl) (wa tw761 rfl) (wa tw8 rfl) (by decide +kernel) ⟨(Nat.le_of_ble_eq_true rfl), (Nat.le_of_ble_eq_true rfl)⟩ (pVw (sZ hP) (tZ hD) hK hNw 0 rfl rfl) hl.1 rfl (Nat.le_of_ble_eq_true rfl) d_law_641 ⟨(Nat.le_of_ble_eq_true rfl), (Nat.le_of_ble_eq_true rfl)⟩ rfl rfl rfl) hP hD hS hA (fun H locs hP hD hS => ?_)
  obtain ⟨E, hB2⟩ := sim_mend hSB (xs (i + 1))
  exact lv_icmp_eq (tgt := 880) hx hb d_law_644 (by decide) (fun _ => kk _ _ _ _ _ _ _ _ _ _ _ _ _ _ _ ⟨SimX_fr hSX (frX_mend Z L (xs (i + 1))), hB2, SimR_fr hSR (frR_mend Z L (xs (i + 1)))⟩ hP hD hS) (fun q => absurd E q)
