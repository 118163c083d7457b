set_option maxHeartbeats 4000000 in
set_option maxRecDepth 100000 in
theorem lc_gain {p : Program} {l : Launch} {e : Env} {s : State} {m : MethodId} {args : Array Value} {below : List Frame} {meth : Method} {c : Code} {Q : State → Prop} {D : va_G} {C : Nat → ClassId} {A : Nat → Prop} {ax am af ap ab ar a : Nat → Nat} {b LL i : Nat} {xs : Nat → Int32} {N lm om L : Nat} {M Bk Rt Z : Nat → Nat → Int32} {F Pt Y : Nat → Nat → Int64} {fm : Int32} {pi : Nat → Int32} {H : Heap} {locs : List Loc} {ls : Array Slot} (hC : Lc p s m c args D C A b LL xs) (hi : i + 5 ≤ LL) (hsim : SimA M Bk Rt Z N lm om L) (hP : va_P D vwCl (WW ax am af ap ab ar a C M F fm Pt pi Bk Rt Z Y) H) (hD : va_D A (WW ax am af ap ab ar a C M F fm Pt pi Bk Rt Z Y)) (hS : va_S A s.heap H locs) (hl : lv_has ls 4 [(0, .ref b), (1, .ref (ax 0)), (2, .ref (a 0)), (3, .int (nI i))])
    (kk : Lk p l e s m args below meth c Q D C A ax am af ap ab ar a ls) : W p l e room_1 s m args below meth c H locs 600000 7302250 Q (F0 m 649 ls []) := by
  obtain ⟨hx, hb, hml, hown, hW, hX, hbl, hbA, hA, hK, hNw, hLL⟩ := hC
  obtain ⟨hSX, hSB, hSR⟩ := id hsim
  have hN : M 6 0 = nI N := hSX.1.1.2.1
  have hN12 : N ≤ 12 := hSX.1.1.1
  have hZN : Z 12 0 = nI N := hSX.1.1.2.2.1
  have hL : Bk 8 0 = nI L := hSB.1.2.1
  have hL60 : L ≤ 60 := hSB.1.1
  have hZL : Z 12 1 = nI L := hSB.1.2.2.1
  have hRok : rtok Rt := hSR.2.2.1
  refine lv_aload_n hx hb d_law_649 rfl (lv_at hl 1 rfl) ?_
  refine lv_aload_n hx hb d_law_650 rfl (lv_at hl 0 rfl) ?_
  refine lv_iload_n hx hb d_law_651 rfl (lv_at hl 3 rfl) ?_
  refine lv_iconst (v := 1) hx hb d_law_652 (by decide) ?_
  refine lv_iadd hx hb d_law_653 ?_
  refine xsld hx hb hX hbl hbA hS (i + 1) (q_add rfl rfl) (by omega) hLL d_law_654 ?_
  refine gXB_i (Bk' := (f6_gain_Bk Bk (xs (i + 1)))) (r := (f6_gain Bk (xs (i + 1)))) (rV (As := [.int (xs (i + 1))]) (n := 1) (rest := []) ⟨hx, hb, hml, hown, hW⟩ (kX6_gain l D C ax am af ap ab ar Bk (xs (i + 1)) H.size ) (wa tw492 rfl) (wa tw489 rfl) (wa tw490 rfl) (wa tw491 rfl) (wa tw1 rfl) (by decide +kernel) ⟨(Nat.le_of_ble_eq_true rfl), (Nat.le_of_ble_eq_true rfl)⟩ (pVw (sXB hP) (tXB hD) hK hNw 0 rfl rfl) hl.1 rfl (Nat.le_of_ble_eq_true rfl) d_law_655 ⟨(Nat.le_of_ble_eq_true rfl), (Nat.le_of_ble_eq_true rfl)⟩ rfl rfl rfl) hP hD hS hA (fun H locs hP hD hS => ?_)
  refine lv_aload_n hx hb d_law_658 rfl (lv_at hl 2 rfl) ?_
  refine lv_aload_n hx hb d_law_659 rfl (lv_at hl 0 rfl) ?_
  refine lv_iload_n hx hb d_law_660 rfl (lv_at hl 3 rfl) ?_
  refine lv_iconst (v := 1) hx hb d_law_661 (by decide) ?_
  refine lv_iadd hx hb d_law_662 ?_
  refine xsld hx hb hX hbl hbA hS (i + 1) (q_add rfl rfl) (by omega) hLL d_law_663 ?_
  refine gZ_i (Z' := (f7_gain_Z Z (xs (i + 1)))) (Y' := Y) (r := (f7_gain Z (xs (i + 1)))) (rV (As := [.int (xs (i + 1))]) (n := 1) (rest := [.int (f6_gain Bk (xs (i + 1)))]) ⟨hx, hb, hml, hown, hW⟩ (kX7_gain l D C a Z Y (xs (i + 1)) H.size ) (wa tw766 rfl) (wa tw763 rfl) (wa tw764 rfl) (wa tw765 rfl) (wa tw8 rfl) (by decide +kernel) ⟨(Nat.le_of_ble_eq_true rfl), (Nat.le_of_ble_eq_true rfl)⟩ (pVw (sZ hP) (tZ hD) hK hNw 0 rfl rfl) hl.1 rfl (Nat.le_of_ble_eq_true rfl) d_law_664 ⟨(Nat.le_of_ble_eq_true rfl), (Nat.le_of_ble_eq_true rfl)⟩ rfl rfl rfl) hP hD hS hA (fun H locs hP hD hS => ?_)
  obtain ⟨E, hB2⟩ := sim_gain hSB (xs (i + 1))
  exact lv_icmp_eq (tgt := 880) hx hb d_law_667 (by decide) (fun _ => kk _ _ _ _ _ _ _ _ _ _ _ _ _ _ _ ⟨SimX_fr hSX (frX_gain Z (xs (i + 1))), hB2, SimR_fr hSR (frR_gain Z (xs (i + 1)))⟩ hP hD hS) (fun q => absurd E q)

set_option maxHeartbeats 4000000 in
set_option maxRecDepth 100000 in
theorem lc_state {p : Program} {l : Launch} {e : Env} {s : State} {m : MethodId} {args : Array Value} {below : List Frame} {meth : Method} {c : Code} {Q : State → Prop} {D : va_G} {C : Nat → ClassId} {A : Nat → Prop} {ax am af ap ab ar a : Nat → Nat} {b LL i : Nat} {xs : Nat → Int32} {N lm om L : Nat} {M Bk Rt Z : Nat → Nat → Int32} {F Pt Y : Nat → Nat → Int64} {fm : Int32} {pi : Nat → Int32} {H : Heap} {locs : List Loc} {ls : Array Slot} (hC : Lc p s m c args D C A b LL xs) (hi : i + 5 ≤ LL) (hsim : SimA M Bk Rt Z N lm om L) (hP : va_P D vwCl (WW ax am af ap ab ar a C M F fm Pt pi Bk Rt Z Y) H) (hD : va_D A (WW ax am af ap ab ar a C M F fm Pt pi Bk Rt Z Y)) (hS : va_S A s.heap H locs) (hl : lv_has ls 4 [(0, .ref b), (1, .ref (ax 0)), (2, .ref (a 0)), (3, .int (nI i))])
    (kk : Lk p l e s m args below meth c Q D C A ax am af ap ab ar a ls) : W p l e room_1 s m args below meth c H locs 600000 7302250 Q (F0 m 672 ls []) := by
  obtain ⟨hx, hb, hml, hown, hW, hX, hbl, hbA, hA, hK, hNw, hLL⟩ := hC
  obtain ⟨hSX, hSB, hSR⟩ := id hsim
  have hN : M 6 0 = nI N := hSX.1.1.2.1
  have hN12 : N ≤ 12 := hSX.1.1.1
  have hZN : Z 12 0 = nI N := hSX.1.1.2.2.1
  have hL : Bk 8 0 = nI L := hSB.1.2.1
  have hL60 : L ≤ 60 := hSB.1.1
  have hZL : Z 12 1 = nI L := hSB.1.2.2.1
  have hRok : rtok Rt := hSR.2.2.1
  refine lv_aload_n hx hb d_law_672 rfl (lv_at hl 1 rfl) ?_
  refine lv_aload_n hx hb d_law_673 rfl (lv_at hl 0 rfl) ?_
  refine lv_iload_n hx hb d_law_674 rfl (lv_at hl 3 rfl) ?_
  refine lv_iconst (v := 1) hx hb d_law_675 (by decide) ?_
  refine lv_iadd hx hb d_law_676 ?_
  refine xsld hx hb hX hbl hbA hS (i + 1) (q_add rfl rfl) (by omega) hLL d_law_677 ?_
  refine lv_aload_n hx hb d_law_678 rfl (lv_at hl 0 rfl) ?_
  refine lv_iload_n hx hb d_law_679 rfl (lv_at hl 3 rfl) ?_
  refine lv_iconst (v := 2) hx hb d_law_680 (by decide) ?_
  refine lv_iadd hx hb d_law_681 ?_
  refine xsld hx hb hX hbl hbA hS (i + 2) (q_add rfl rfl) (by omega) hLL d_law_682 ?_
  refine xri (r := (f6_state Bk (xs (i + 1)) (xs (i + 2)))) (rV (As := [.int (xs (i + 1)), .int (xs (i + 2))]) (n := 2) (rest := []) ⟨hx, hb, hml, hown, hW⟩ (kX6_state l D C ax am af ap ab ar Bk (xs (i + 1)) (xs (i + 2)) L hL hL60) (wa tw496 rfl) (wa tw493 rfl) (wa tw494 rfl) (wa tw495 rfl) (wa tw1 rfl) (by decide +kernel) ⟨(Nat.le_of_ble_eq_true rfl), (Nat.le_of_ble_eq_true rfl)⟩ (pVr (sXB hP) hK hNw 0 rfl rfl) hl.1 rfl (Nat.le_of_ble_eq_true rfl) d_law_683 ⟨(Nat.le_of_ble_eq_true rfl), (Nat.le_of_ble_eq_true rfl)⟩ rfl rfl rfl) ?_
  refine lv_aload_n hx hb d_law_686 rfl (lv_at hl 2 rfl) ?_
  refine lv_aload_n hx hb d_law_687 rfl (lv_at hl 0 rfl) ?_
  refine lv_iload_n hx hb d_law_688 rfl (lv_at hl 3 rfl) ?_
  refine lv_iconst (v := 1) hx hb d_law_689 (by decide) ?_
  refine lv_iadd hx hb d_law_690 ?_
  refine xsld hx hb hX hbl hbA hS (i + 1) (q_add rfl rfl) (by omega) hLL d_law_691 ?_
  refine lv_aload_n hx hb d_law_692 rfl (lv_at hl 0 rfl) ?_
  refine lv_iload_n hx hb d_law_693 rfl (lv_at hl 3 rfl) ?_
  refine lv_iconst (v := 2) hx hb d_law_694 (by decide) ?_
  refine lv_iadd hx hb d_law_695 ?_
  refine xsld hx hb hX hbl hbA hS (i + 2) (q_add rfl rfl) (by omega) hLL d_law_696 ?_
  refine xri (r := (f7_state Z (xs (i + 1)) (xs (i + 2)))) (rV (As := [.int (xs (i + 1)), .int (xs (i + 2))]) (n := 2) (rest := [.int (f6_state Bk (xs (i + 1)) (xs (i + 2)))]) ⟨hx, hb, hml, hown, hW⟩ (kX7_state l D C a Z Y (xs (i + 1)) (xs (i + 2)) L hZL hL60) (wa tw771 rfl) (wa tw768 rfl) (wa tw769 rfl) (wa tw770 rfl) (wa tw8 rfl) (by decide +kernel) ⟨(Nat.le_of_ble_eq_true rfl), (Nat.le_of_ble_eq_true rfl)⟩ (pVr (sZ hP) hK hNw 0 rfl rfl) hl.1 rfl (Nat.le_of_ble_eq_true rfl) d_law_697 ⟨(Nat.le_of_ble_eq_true rfl), (Nat.le_of_ble_eq_true rfl)⟩ rfl rfl rfl) ?_
  have E := sim_state hSB (xs (i + 1)) (xs (i + 2))
  exact lv_icmp_eq (tgt := 880) hx hb d_law_700 (by decide) (fun _ => kk _ _ _ _ _ _ _ _ _ _ _ _ _ _ _ hsim hP hD hS) (fun q => absurd E q)

set_option maxHeartbeats 4000000 in
set_option maxRecDepth 100000 in
theorem lc_advice {p : Program} {l : Launch} {e : Env} {s : State} {m : MethodId} {args : Array Value} {below : List Frame} {meth : Method} {c : Code} {Q : State → Prop} {D : va_G} {C : Nat → ClassId} {A : Nat → Prop} {ax am af ap ab ar a : Nat → Nat} {b LL i : Nat} {xs : Nat → Int32} {N lm om L : Nat} {M Bk Rt Z : Nat → Nat → Int32} {F Pt Y : Nat → Nat → Int64} {fm : Int32} {pi : Nat → Int32} {H : Heap} {locs : List Loc} {ls : Array Slot} (hC : Lc p s m c args D C A b LL xs) (hi : i + 5 ≤ LL) (hsim : SimA M Bk Rt Z N lm om L) (hP : va_P D vwCl (WW ax am af ap ab ar a C M F fm Pt pi Bk Rt Z Y) H) (hD : va_D A (WW ax am af ap ab ar a C M F fm Pt pi Bk Rt Z Y)) (hS : va_S A s.heap H locs) (hl : lv_has ls 4 [(0, .ref b), (1, .ref (ax 0)), (2, .ref (a 0)), (3, .int (nI i))])
    (kk : Lk p l e s m args below meth c Q D C A ax am af ap ab ar a ls) : W p l e room_1 s m args below meth c H locs 600000 7302250 Q (F0 m 705 ls []) := by
  obtain ⟨hx, hb, hml, hown, hW, hX, hbl, hbA, hA, hK, hNw, hLL⟩ := hC
  obtain ⟨hSX, hSB, hSR⟩ := id hsim
  have hN : M 6 0 = nI N := hSX.1.1.2.1
  have hN12 : N ≤ 12 := hSX.1.1.1
  have hZN : Z 12 0 = nI N := hSX.1.1.2.2.1
  have hL : Bk 8 0 = nI L := hSB.1.2.1
  have hL60 : L ≤ 60 := hSB.1.1
  have hZL : Z 12 1 = nI L := hSB.1.2.2.1
  have hRok : rtok Rt := hSR.2.2.1
  refine lv_aload_n hx hb d_law_705 rfl (lv_at hl 1 rfl) ?_
  refine lv_aload_n hx hb d_law_706 rfl (lv_at hl 0 rfl) ?_
  refine lv_iload_n hx hb d_law_707 rfl (lv_at hl 3 rfl) ?_
  refine lv_iconst (v := 1) hx hb d_law_708 (by decide) ?_
  refine lv_iadd hx hb d_law_709 ?_
  refine xsld hx hb hX hbl hbA hS (i + 1) (q_add rfl rfl) (by omega) hLL d_law_710 ?_
  refine xri (r := (f6_advice Bk L (xs (i + 1)))) (rV (As := [.int (xs (i + 1))]) (n := 1) (rest := []) ⟨hx, hb, hml, hown, hW⟩ (kX6_advice l D C ax am af ap ab ar Bk (xs (i + 1)) L hL hL60) (wa tw504 rfl) (wa tw501 rfl) (wa tw502 rfl) (wa tw503 rfl) (wa tw1 rfl) (by decide +kernel) ⟨(Nat.le_of_ble_eq_true rfl), (Nat.le_of_ble_eq_true rfl)⟩ (pVr (sXB hP) hK hNw 0 rfl rfl) hl.1 rfl (Nat.le_of_ble_eq_true rfl) d_law_711 ⟨(Nat.le_of_ble_eq_true rfl), (Nat.le_of_ble_eq_true rfl)⟩ rfl rfl rfl) ?_
  refine lv_aload_n hx hb d_law_714 rfl (lv_at hl 2 rfl) ?_
  refine lv_aload_n hx hb d_law_715 rfl (lv_at hl 0 rfl) ?_
  refine lv_iload_n hx hb d_law_716 rfl (lv_at hl 3 rfl) ?_
  refine lv_iconst (v := 1) hx hb d_law_717 (by decide) ?_
  refine lv_iadd hx hb d_law_718 ?_
  refine xsld hx hb hX hbl hbA hS (i + 1) (q_add rfl rfl) (by omega) hLL d_law_719 ?_
  refine xri (r := (f7_advice Z L (xs (i + 1)))) (rV (As := [.int (xs (i + 1))]) (n := 1) (rest := [.int (f6_advice Bk L (xs (i + 1)))]) ⟨hx, hb, hml, hown, hW⟩ (kX7_advice l D C a Z Y (xs (i + 1)) L hZL hL60) (wa tw779 rfl) (wa tw776 rfl) (wa tw777 rfl) (wa tw778 rfl) (wa tw8 rfl) (by decide +kernel) ⟨(Nat.le_of_ble_eq_true rfl), (Nat.le_of_ble_eq_true rfl)⟩ (pVr (sZ hP) hK hNw 0 rfl rfl) hl.1 rfl (Nat.le_of_ble_eq_true rfl) d_law_720 ⟨(Nat.le_of_ble_eq_true rfl), (Nat.le_of_ble_eq_true rfl)⟩ rfl rfl rfl) ?_
  have E := sim_advice hSB (xs (i + 1))
  exact lv_icmp_eq (tgt := 880) hx hb d_law_723 (by decide) (fun _ => kk _ _ _ _ _ _ _ _ _ _ _ _ _ _ _ hsim hP hD hS) (fun q => absurd E q)

set_option maxHeartbeats 4000000 in
set_option maxRecDepth 100000 in
theorem lc_offset {p : Program} {l : Launch} {e : Env} {s : State} {m : MethodId} {args : Array Value} {below : List Frame} {meth : Method} {c : Code} {Q : State → Prop} {D : va_G} {C : Nat → ClassId} {A : Nat → Prop} {ax am af ap ab ar a : Nat → Nat} {b LL i : Nat} {xs : Nat → Int32} {N lm om L : Nat} {M Bk Rt Z : Nat → Nat → Int32} {F Pt Y : Nat → Nat → Int64} {fm : Int32} {pi : Nat → Int32} {H : Heap} {locs : List Loc} {ls : Array Slot} (hC : Lc p s m c args D C A b LL xs) (hi : i + 5 ≤ LL) (hsim : SimA M Bk Rt Z N lm om L) (hP : va_P D vwCl (WW ax am af ap ab ar a C M F fm Pt pi Bk Rt Z Y) H) (hD : va_D A (WW ax am af ap ab ar a C M F fm Pt pi Bk Rt Z Y)) (hS : va_S A s.heap H locs) (hl : lv_has ls 4 [(0, .ref b), (1, .ref (ax 0)), (2, .ref (a 0)), (3, .int (nI i))])
    (kk : Lk p l e s m args below meth c Q D C A ax am af ap ab ar a ls) : W p l e room_1 s m args below meth c H locs 600000 7302250 Q (F0 m 728 ls []) := by
  obtain ⟨hx, hb, hml, hown, hW, hX, hbl, hbA, hA, hK, hNw, hLL⟩ := hC
  obtain ⟨hSX, hSB, hSR⟩ := id hsim
  have hN : M 6 0 = nI N := hSX.1.1.2.1
  have hN12 : N ≤ 12 := hSX.1.1.1
  have hZN : Z 12 0 = nI N := hSX.1.1.2.2.1
  have hL : Bk 8 0 = nI L := hSB.1.2.1
  have hL60 : L ≤ 60 := hSB.1.1
  have hZL : Z 12 1 = nI L := hSB.1.2.2.1
  have hRok : rtok Rt := hSR.2.2.1
  refine lv_aload_n hx hb d_law_728 rfl (lv_at hl 1 rfl) ?_
  refine lv_aload_n hx hb d_law_729 rfl (lv_at hl 0 rfl) ?_
  refine lv_iload_n hx hb d_law_730 rfl (lv_at hl 3 rfl) ?_
  refine lv_iconst (v := 1) hx hb d_law_731 (by decide) ?_
  refine lv_iadd hx hb d_law_732 ?_
  refine xsld hx hb hX hbl hbA hS (i + 1) (q_add rfl rfl) (by omega) hLL d_law_733 ?_
  refine lv_aload_n hx hb d_law_734 rfl (lv_at hl 0 rfl) ?_
  refine lv_iload_n hx hb d_law_735 rfl (lv_at hl 3 rfl) ?_
  refine lv_iconst (v := 2) hx hb d_law_736 (by decide) ?_
  refine lv_iadd hx hb d_law_737 ?_
  refine xsld hx hb hX hbl hbA hS (i + 2) (q_add rfl rfl) (by omega) hLL d_law_738 ?_
  refine lv_aload_n hx hb d_law_739 rfl (lv_at hl 0 rfl) ?_
  refine lv_iload_n hx hb d_law_740 rfl (lv_at hl 3 rfl) ?_
  refine lv_iconst (v := 3) hx hb d_law_741 (by decide) ?_
  refine lv_iadd hx hb d_law_742 ?_
  refine xsld hx hb hX hbl hbA hS (i + 3) (q_add rfl rfl) (by omega) hLL d_law_743 ?_
  refine gXR_i (Rt' := (f6_offset_Rt Rt (xs (i + 1)) (xs (i + 2)) (xs (i + 3)))) (r := (f6_offset Rt (xs (i + 1)) (xs (i + 2)) (xs (i + 3)))) (rV (As := [.int (xs (i + 1)), .int (xs (i + 2)), .int (xs (i + 3))]) (n := 3) (rest := []) ⟨hx, hb, hml, hown, hW⟩ (kX6_offset l D C ax am af ap ab ar Rt (xs (i + 1)) (xs (i + 2)) (xs (i + 3)) H.size ) (wa tw508 rfl) (wa tw505 rfl) (wa tw506 rfl) (wa tw507 rfl) (wa tw1 rfl) (by decide +kernel) ⟨(Nat.le_of_ble_eq_true rfl), (Nat.le_of_ble_eq_true rfl)⟩ (pVw (sXR hP) (tXR hD) hK hNw 0 rfl rfl) hl.1 rfl (Nat.le_of_ble_eq_true rfl) d_law_744 ⟨(Nat.le_of_ble_eq_true rfl), (Nat.le_of_ble_eq_true rfl)⟩ rfl rfl rfl) hP hD hS hA (fun H locs hP hD hS => ?_)
  refine lv_aload_n hx hb d_law_747 rfl (lv_at hl 2 rfl) ?_
  refine lv_aload_n hx hb d_law_748 rfl (lv_at hl 0 rfl) ?_
  refine lv_iload_n hx hb d_law_749 rfl (lv_at hl 3 rfl) ?_
  refine lv_iconst (v := 1) hx hb d_law_750 (by decide) ?_
  refine lv_iadd hx hb d_law_751 ?_
  refine xsld hx hb hX hbl hbA hS (i + 1) (q_add rfl rfl) (by omega) hLL d_law_752 ?_
  refine lv_aload_n hx hb d_law_753 rfl (lv_at hl 0 rfl) ?_
  refine lv_iload_n hx hb d_law_754 rfl (lv_at hl 3 rfl) ?_
  refine lv_iconst (v := 2) hx hb d_law_755 (by decide) ?_
  refine lv_iadd hx hb d_law_756 ?_
  refine xsld hx hb hX hbl hbA hS (i + 2) (q_add rfl rfl) (by omega) hLL d_law_757 ?_
  refine lv_aload_n hx hb d_law_758 rfl (lv_at hl 0 rfl) ?_
  refine lv_iload_n hx hb d_law_759 rfl (lv_at hl 3 rfl) ?_
  refine lv_iconst (v := 3) hx hb d_law_760 (by decide) ?_
  refine lv_iadd hx hb d_law_761 ?_
  refine xsld hx hb hX hbl hbA hS (i + 3) (q_add rfl rfl) (by omega) hLL d_law_762 ?_
  refine gZ_i (Z' := (f7_offset_Z Z (xs (i + 1)) (xs (i + 2)) (xs (i + 3)))) (Y' := Y) (r := (f7_offset Z (xs (i + 1)) (xs (i + 2)) (xs (i + 3)))) (rV (As := [.int (xs (i + 1)), .int (xs (i + 2)), .int (xs (i + 3))]) (n := 3) (rest := [.int (f6_offset Rt (xs (i + 1)) (xs (i + 2)) (xs (i + 3)))]) ⟨hx, hb, hml, hown, hW⟩ (kX7_offset l D C a Z Y (xs (i + 1)) (xs (i + 2)) (xs (i + 3)) H.size ) (wa tw783 rfl) (wa tw780 rfl) (wa tw781 rfl) (wa tw782 rfl) (wa tw8 rfl) (by decide +kernel) ⟨(Nat.le_of_ble_eq_true rfl), (Nat.le_of_ble_eq_true rfl)⟩ (pVw (sZ hP) (tZ hD) hK hNw 0 rfl rfl) hl.1 rfl (Nat.le_of_ble_eq_true rfl) d_law_763 ⟨(Nat.le_of_ble_eq_true rfl), (Nat.le_of_ble_eq_true rfl)⟩ rfl rfl rfl) hP hD hS hA (fun H locs hP hD hS => ?_)
  obtain ⟨E, hR2⟩ := sim_offset hSR (xs (i + 1)) (xs (i + 2)) (xs (i + 3))
  exact lv_icmp_eq (tgt := 880) hx hb d_law_766 (by decide) (fun _ => kk _ _ _ _ _ _ _ _ _ _ _ _ _ _ _ ⟨SimX_fr hSX (frX_offset Z (xs (i + 1)) (xs (i + 2)) (xs (i + 3))), SimB_fr hSB (frB_offset Z (xs (i + 1)) (xs (i + 2)) (xs (i + 3))), hR2⟩ hP hD hS) (fun q => absurd E q)

set_option maxHeartbeats 4000000 in
set_option maxRecDepth 100000 in
theorem lc_rule {p : Program} {l : Launch} {e : Env} {s : State} {m : MethodId} {args : Array Value} {below : List Frame} {meth : Method} {c : Code} {Q : State → Prop} {D : va_G} {C : Nat → ClassId} {A : Nat → Prop} {ax am af ap ab ar a : Nat → Nat} {b LL i : Nat} {xs : Nat → Int32} {N lm om L : Nat} {M Bk Rt Z : Nat → Nat → Int32} {F Pt Y : Nat → Nat → Int64} {fm : Int32} {pi : Nat → Int32} {H : Heap} {locs : List Loc} {ls : Array Slot} (hC : Lc p s m c args D C A b LL xs) (hi : i + 5 ≤ LL) (hsim : SimA M Bk Rt Z N lm om L) (hP : va_P D vwCl (WW ax am af ap ab ar a C M F fm Pt pi Bk Rt Z Y) H) (hD : va_D A (WW ax am af ap ab ar a C M F fm Pt pi Bk Rt Z Y)) (hS : va_S A s.heap H locs) (hl : lv_has ls 4 [(0, .ref b), (1, .ref (ax 0)), (2, .ref (a 0)), (3, .int (nI i))])
    (kk : Lk p l e s m args below meth c Q D C A ax am af ap ab ar a ls) : W p l e room_1 s m args below meth c H locs 600000 7302250 Q (F0 m 771 ls []) := by
  obtain ⟨hx, hb, hml, hown, hW, hX, hbl, hbA, hA, hK, hNw, hLL⟩ := hC
  obtain ⟨hSX, hSB, hSR⟩ := id hsim
  have hN : M 6 0 = nI N := hSX.1.1.2.1
  have hN12 : N ≤ 12 := hSX.1.1.1
  have hZN : Z 12 0 = nI N := hSX.1.1.2.2.1
  have hL : Bk 8 0 = nI L := hSB.1.2.1
  have hL60 : L ≤ 60 := hSB.1.1
  have hZL : Z 12 1 = nI L := hSB.1.2.2.1
  have hRok : rtok Rt := hSR.2.2.1
  refine lv_aload_n hx hb d_law_771 rfl (lv_at hl 1 rfl) ?_
  refine lv_aload_n hx hb d_law_772 rfl (lv_at hl 0 rfl) ?_
  refine lv_iload_n hx hb d_law_773 rfl (lv_at hl 3 rfl) ?_
  refine lv_iconst (v := 1) hx hb d_law_774 (by decide) ?_
  refine lv_iadd hx hb d_law_775 ?_
  refine xsld hx hb hX hbl hbA hS (i + 1) (q_add rfl rfl) (by omega) hLL d_law_776 ?_
  refine lv_aload_n hx hb d_law_777 rfl (lv_at hl 0 rfl) ?_
  refine lv_iload_n hx hb d_law_778 rfl (lv_at hl 3 rfl) ?_
  refine lv_iconst (v := 2) hx hb d_law_779 (by decide) ?_
  refine lv_iadd hx hb d_law_780 ?_
  refine xsld hx hb hX hbl hbA hS (i + 2) (q_add rfl rfl) (by omega) hLL d_law_781 ?_
  refine gXR_i (Rt' := (f6_rule_Rt Rt (xs (i + 1)) (xs (i + 2)))) (r := (f6_rule Rt (xs (i + 1)) (xs (i + 2)))) (rV (As := [.int (xs (i + 1)), .int (xs (i + 2))]) (n := 2) (rest := []) ⟨hx, hb, hml, hown, hW⟩ (kX6_rule l D C ax am af ap ab ar Rt (xs (i + 1)) (xs (i + 2)) H.size ) (wa tw512 rfl) (wa tw509 rfl) (wa tw510 rfl) (wa tw511 rfl) (wa tw1 rfl) (by decide +kernel) ⟨(Nat.le_of_ble_eq_true rfl), (Nat.le_of_ble_eq_true rfl)⟩ (pVw (sXR hP) (tXR hD) hK hNw 0 rfl rfl) hl.1 rfl (Nat.le_of_ble_eq_true rfl) d_law_782 ⟨(Nat.le_of_ble_eq_true rfl), (Nat.le_of_ble_eq_true rfl)⟩ rfl rfl rfl) hP hD hS hA (fun H locs hP hD hS => ?_)
  refine lv_aload_n hx hb d_law_785 rfl (lv_at hl 2 rfl) ?_
  refine lv_aload_n hx hb d_law_786 rfl (lv_at hl 0 rfl) ?_
  refine lv_iload_n hx hb d_law_787 rfl (lv_at hl 3 rfl) ?_
  refine lv_iconst (v := 1) hx hb d_law_788 (by decide) ?_
  refine lv_iadd hx hb d_law_789 ?_
  refine xsld hx hb hX hbl hbA hS (i + 1) (q_add rfl rfl) (by omega) hLL d_law_790 ?_
  refine lv_aload_n hx hb d_law_791 rfl (lv_at hl 0 rfl) ?_
  refine lv_iload_n hx hb d_law_792 rfl (lv_at hl 3 rfl) ?_
  refine lv_iconst (v := 2) hx hb d_law_793 (by decide) ?_
  refine lv_iadd hx hb d_law_794 ?_
  refine xsld hx hb hX hbl hbA hS (i + 2) (q_add rfl rfl) (by omega) hLL d_law_795 ?_
  refine gZ_i (Z' := (f7_rule_Z Z (xs (i + 1)) (xs (i + 2)))) (Y' := Y) (r := (f7_rule Z (xs (i + 1)) (xs (i + 2)))) (rV (As := [.int (xs (i + 1)), .int (xs (i + 2))]) (n := 2) (rest := [.int (f6_rule Rt (xs (i + 1)) (xs (i + 2)))]) ⟨hx, hb, hml, hown, hW⟩ (kX7_rule l D C a Z Y (xs (i + 1)) (xs (i + 2)) H.size ) (wa tw787 rfl) (wa tw784 rfl) (wa tw785 rfl) (wa tw786 rfl) (wa tw8 rfl) (by decide +kernel) ⟨(Nat.le_of_ble_eq_true rfl), (Nat.le_of_ble_eq_true rfl)⟩ (pVw (sZ hP) (tZ hD) hK hNw 0 rfl rfl) hl.1 rfl (Nat.le_of_ble_eq_true rfl) d_law_796 ⟨(Nat.le_of_ble_eq_true rfl), (Nat.le_of_ble_eq_true rfl)⟩ rfl rfl rfl) hP hD hS hA (fun H locs hP hD hS => ?_)
  obtain ⟨E, hR2⟩ := sim_rule hSR (xs (i + 1)) (xs (i + 2))
  exact lv_icmp_eq (tgt := 880) hx hb d_law_799 (by decide) (fun _ => kk _ _ _ _ _ _ _ _ _ _ _ _ _ _ _ ⟨SimX_fr hSX (frX_rule Z (xs (i + 1)) (xs (i + 2))), SimB_fr hSB (frB_rule Z (xs (i + 1)) (xs (i + 2))), hR2⟩ hP hD hS) (fun q => absurd E q)

set_option maxHeartbeats 4000000 in
set_option maxRecDepth 100000 in
theorem lc_route {p : Program} {l : Launch} {e : Env} {s : State} {m : MethodId} {args : Array Value} {below : List Frame} {meth : Method} {c : Code} {Q : State → Prop} {D : va_G} {C : Nat → ClassId} {A : Nat → Prop} {ax am af ap ab ar a : Nat → Nat} {b LL i : Nat} {xs : Nat → Int32} {N lm om L : Nat} {M Bk Rt Z : Nat → Nat → Int32} {F Pt Y : Nat → Nat → Int64} {fm : Int32} {pi : Nat → Int32} {H : Heap} {locs : List Loc} {ls : Array Slot} (hC : Lc p s m c args D C A b LL xs) (hi : i + 5 ≤ LL) (hsim : SimA M Bk Rt Z N lm om L) (hP : va_P D vwCl (WW ax am af ap ab ar a C M F fm Pt pi Bk Rt Z Y) H) (hD : va_D A (WW ax am af ap ab ar a C M F fm Pt pi Bk Rt Z Y)) (hS : va_S A s.heap H locs) (hl : lv_has ls 4 [(0, .ref b), (1, .ref (ax 0)), (2, .ref (a 0)), (3, .int (nI i))])
    (kk : Lk p l e s m args below meth c Q D C A ax am af ap ab ar a ls) : W p l e room_1 s m args below meth c H locs 600000 7302250 Q (F0 m 804 ls []) := by
  obtain ⟨hx, hb, hml, hown, hW, hX, hbl, hbA, hA, hK, hNw, hLL⟩ := hC
  obtain ⟨hSX, hSB, hSR⟩ := id hsim
  have hN : M 6 0 = nI N := hSX.1.1.2.1
  have hN12 : N ≤ 12 := hSX.1.1.1
  have hZN : Z 12 0 = nI N := hSX.1.1.2.2.1
  have hL : Bk 8 0 = nI L := hSB.1.2.1
  have hL60 : L ≤ 60 := hSB.1.1
  have hZL : Z 12 1 = nI L := hSB.1.2.2.1
  have hRok : rtok Rt := hSR.2.2.1
  refine lv_aload_n hx hb d_law_804 rfl (lv_at hl 1 rfl) ?_
  refine lv_aload_n hx hb d_law_805 rfl (lv_at hl 0 rfl) ?_
  refine lv_iload_n hx hb d_law_806 rfl (lv_at hl 3 rfl) ?_
  refine lv_iconst (v := 1) hx hb d_law_807 (by decide) ?_
  refine lv_iadd hx hb d_law_808 ?_
  refine xsld hx hb hX hbl hbA hS (i + 1) (q_add rfl rfl) (by omega) hLL d_law_809 ?_
  refine lv_aload_n hx hb d_law_810 rfl (lv_at hl 0 rfl) ?_
  refine lv_iload_n hx hb d_law_811 rfl (lv_at hl 3 rfl) ?_
  refine lv_iconst (v := 2) hx hb d_law_812 (by decide) ?_
  refine lv_iadd hx hb d_law_813 ?_
  refine xsld hx hb hX hbl hbA hS (i + 2) (q_add rfl rfl) (by omega) hLL d_law_814 ?_
  refine gXR_i (Rt' := (f6_route_Rt Rt (xs (i + 1)) (xs (i + 2)))) (r := (f6_route Rt (xs (i + 1)) (xs (i + 2)))) (rV (As := [.int (xs (i + 1)), .int (xs (i + 2))]) (n := 2) (rest := []) ⟨hx, hb, hml, hown, hW⟩ (kX6_route l D C ax am af ap ab ar Rt (xs (i + 1)) (xs (i + 2)) H.size hRok) (wa tw516 rfl) (wa tw513 rfl) (wa tw514 rfl) (wa tw515 rfl) (wa tw1 rfl) (by decide +kernel) ⟨(Nat.le_of_ble_eq_true rfl), (Nat.le_of_ble_eq_true rfl)⟩ (pVw (sXR hP) (tXR hD) hK hNw 0 rfl rfl) hl.1 rfl (Nat.le_of_ble_eq_true rfl) d_law_815 ⟨(Nat.le_of_ble_eq_true rfl), (Nat.le_of_ble_eq_true rfl)⟩ rfl rfl rfl) hP hD hS hA (fun H locs hP hD hS => ?_)
  refine lv_aload_n hx hb d_law_818 rfl (lv_at hl 2 rfl) ?_
  refine lv_aload_n hx hb d_law_819 rfl (lv_at hl 0 rfl) ?_
  refine lv_iload_n hx hb d_law_820 rfl (lv_at hl 3 rfl) ?_
  refine lv_iconst (v := 1) hx hb d_law_821 (by decide) ?_
  refine lv_iadd hx hb d_law_822 ?_
  refine xsld hx hb hX hbl hbA hS (i + 1) (q_add rfl rfl) (by omega) hLL d_law_823 ?_
  refine lv_aload_n hx hb d_law_824 rfl (lv_at hl 0 rfl) ?_
  refine lv_iload_n hx hb d_law_825 rfl (lv_at hl 3 rfl) ?_
  refine lv_iconst (v := 2) hx hb d_law_826 (by decide) ?_
  refine lv_iadd hx hb d_law_827 ?_
  refine xsld hx hb hX hbl hbA hS (i + 2) (q_add rfl rfl) (by omega) hLL d_law_828 ?_
  refine gZ_i (Z' := (f7_route_Z Z (xs (i + 1)) (xs (i + 2)))) (Y' := Y) (r := (f7_route Z (xs (i + 1)) (xs (i + 2)))) (rV (As := [.int (xs (i + 1)), .int (xs (i + 2))]) (n := 2) (rest := [.int (f6_route Rt (xs (i + 1)) (xs (i + 2)))]) ⟨hx, hb, hml, hown, hW⟩ (kX7_route l D C a Z Y (xs (i + 1)) (xs (i + 2)) H.size ) (wa tw792 rfl) (wa tw789 rfl) (wa tw790 rfl) (wa tw791 rfl) (wa tw8 rfl) (by decide +kernel) ⟨(Nat.le_of_ble_eq_true rfl), (Nat.le_of_ble_eq_true rfl)⟩ (pVw (sZ hP) (tZ hD) hK hNw 0 rfl rfl) hl.1 rfl (Nat.le_of_ble_eq_true rfl) d_law_829 ⟨(Nat.le_of_ble_eq_true rfl), (Nat.le_of_ble_eq_true rfl)⟩ rfl rfl rfl) hP hD hS hA (fun H locs hP hD hS => ?_)
  obtain ⟨E, hR2⟩ := sim_route hSR (xs (i + 1)) (xs (i + 2))
  exact lv_icmp_eq (tgt := 880) hx hb d_law_832 (by decide) (fun _ => kk _ _ _ _ _ _ _ _ _ _ _ _ _ _ _ ⟨SimX_fr hSX (frX_route Z (xs (i + 1)) (xs (i + 2))), SimB_fr hSB (frB_route Z (xs (i + 1)) (xs (i + 2))), hR2⟩ hP hD hS) (fun q => absurd E q)

set_option maxHeartbeats 4000000 in
set_option maxRecDepth 100000 in
theorem lc_bad {p : Program} {l : Launch} {e : Env} {s : State} {m : MethodId} {args : Array Value} {below : List Frame} {meth : Method} {c : Code} {Q : State → Prop} {D : va_G} {C : Nat → ClassId} {A : Nat → Prop} {ax am af ap ab ar a : Nat → Nat} {b LL i : Nat} {xs : Nat → Int32} {N lm om L : Nat} {M Bk Rt Z : Nat → Nat → Int32} {F Pt Y : Nat → Nat → Int64} {fm : Int32} {pi : Nat → Int32} {H : Heap} {locs : List Loc} {ls : Array Slot} (hC : Lc p s m c args D C A b LL xs) (hi : i + 5 ≤ LL) (hsim : SimA M Bk Rt Z N lm om L) (hP : va_P D vwCl (WW ax am af ap ab ar a C M F fm Pt pi Bk Rt Z Y) H) (hD : va_D A (WW ax am af ap ab ar a C M F fm Pt pi Bk Rt Z Y)) (hS : va_S A s.heap H locs) (hl : lv_has ls 4 [(0, .ref b), (1, .ref (ax 0)), (2, .ref (a 0)), (3, .int (nI i))])
    (kk : Lk p l e s m args below meth c Q D C A ax am af ap ab ar a ls) : W p l e room_1 s m args below meth c H locs 600000 7302250 Q (F0 m 837 ls []) := by
  obtain ⟨hx, hb, hml, hown, hW, hX, hbl, hbA, hA, hK, hNw, hLL⟩ := hC
  obtain ⟨hSX, hSB, hSR⟩ := id hsim
  have hN : M 6 0 = nI N := hSX.1.1.2.1
  have hN12 : N ≤ 12 := hSX.1.1.1
  have hZN : Z 12 0 = nI N := hSX.1.1.2.2.1
  have hL : Bk 8 0 = nI L := hSB.1.2.1
  have hL60 : L ≤ 60 := hSB.1.1
  have hZL : Z 12 1 = nI L := hSB.1.2.2.1
  have hRok : rtok Rt := hSR.2.2.1
  refine lv_aload_n hx hb d_law_837 rfl (lv_at hl 1 rfl) ?_
  refine lv_aload_n hx hb d_law_838 rfl (lv_at hl 0 rfl) ?_
  refine lv_iload_n hx hb d_law_839 rfl (lv_at hl 3 rfl) ?_
  refine lv_iconst (v := 1) hx hb d_law_840 (by decide) ?_
  refine lv_iadd hx hb d_law_841 ?_
  refine xsld hx hb hX hbl hbA hS (i + 1) (q_add rfl rfl) (by omega) hLL d_law_842 ?_
  refine lv_aload_n hx hb d_law_843 rfl (lv_at hl 0 rfl) ?_
  refine lv_iload_n hx hb d_law_844 rfl (lv_at hl 3 rfl) ?_
  refine lv_iconst (v := 2) hx hb d_law_845 (by decide) ?_
  refine lv_iadd hx hb d_law_846 ?_
  refine xsld hx hb hX hbl hbA hS (i + 2) (q_add rfl rfl) (by omega) hLL d_law_847 ?_
  refine lv_aload_n hx hb d_law_848 rfl (lv_at hl 0 rfl) ?_
  refine lv_iload_n hx hb d_law_849 rfl (lv_at hl 3 rfl) ?_
  refine lv_iconst (v := 3) hx hb d_law_850 (by decide) ?_
  refine lv_iadd hx hb d_law_851 ?_
  refine xsld hx hb hX hbl hbA hS (i + 3) (q_add rfl rfl) (by omega) hLL d_law_852 ?_
  refine gXFM_i (F' := (f6_bad_F M F fm N (xs (i + 1)) (xs (i + 2)) (xs (i + 3)))) (fm' := (f6_bad_fm M F fm N (xs (i + 1)) (xs (i + 2)) (xs (i + 3)))) (M' := M) (r := (f6_bad M F fm N (xs (i + 1)) (xs (i + 2)) (xs (i + 3)))) (rV (As := [.int (xs (i + 1)), .int (xs (i + 2)), .int (xs (i + 3))]) (n := 3) (rest := []) ⟨hx, hb, hml, hown, hW⟩ (kX6_bad l D C ax am af ap ab ar F fm M (xs (i + 1)) (xs (i + 2)) (xs (i + 3)) H.size N hN hN12) (wa tw542 rfl) (wa tw539 rfl) (wa tw540 rfl) (wa tw541 rfl) (wa tw1 rfl) (by decide +kernel) ⟨(Nat.le_of_ble_eq_true rfl), (Nat.le_of_ble_eq_true rfl)⟩ (pVw (sXFM hP) (tXFM hD) hK hNw 0 rfl rfl) hl.1 rfl (Nat.le_of_ble_eq_true rfl) d_law_853 ⟨(Nat.le_of_ble_eq_true rfl), (Nat.le_of_ble_eq_true rfl)⟩ rfl rfl rfl) hP hD hS hA (fun H locs hP hD hS => ?_)
  refine lv_aload_n hx hb d_law_856 rfl (lv_at hl 2 rfl) ?_
  refine lv_aload_n hx hb d_law_857 rfl (lv_at hl 0 rfl) ?_
  refine lv_iload_n hx hb d_law_858 rfl (lv_at hl 3 rfl) ?_
  refine lv_iconst (v := 1) hx hb d_law_859 (by decide) ?_
  refine lv_iadd hx hb d_law_860 ?_
  refine xsld hx hb hX hbl hbA hS (i + 1) (q_add rfl rfl) (by omega) hLL d_law_861 ?_
  refine lv_aload_n hx hb d_law_862 rfl (lv_at hl 0 rfl) ?_
  refine lv_iload_n hx hb d_law_863 rfl (lv_at hl 3 rfl) ?_
  refine lv_iconst (v := 2) hx hb d_law_864 (by decide) ?_
  refine lv_iadd hx hb d_law_865 ?_
  refine xsld hx hb hX hbl hbA hS (i + 2) (q_add rfl rfl) (by omega) hLL d_law_866 ?_
  refine lv_aload_n hx hb d_law_867 rfl (lv_at hl 0 rfl) ?_
  refine lv_iload_n hx hb d_law_868 rfl (lv_at hl 3 rfl) ?_
  refine lv_iconst (v := 3) hx hb d_law_869 (by decide) ?_
  refine lv_iadd hx hb d_law_870 ?_
  refine xsld hx hb hX hbl hbA hS (i + 3) (q_add rfl rfl) (by omega) hLL d_law_871 ?_
  refine gZ_i (Z' := Z) (Y' := (f7_bad_Y Z Y N (xs (i + 1)) (xs (i + 2)) (xs (i + 3)))) (r := (f7_bad Z Y N (xs (i + 1)) (xs (i + 2)) (xs (i + 3)))) (rV (As := [.int (xs (i + 1)), .int (xs (i + 2)), .int (xs (i + 3))]) (n := 3) (rest := [.int (f6_bad M F fm N (xs (i + 1)) (xs (i + 2)) (xs (i + 3)))]) ⟨hx, hb, hml, hown, hW⟩ (kX7_bad l D C a Z Y (xs (i + 1)) (xs (i + 2)) (xs (i + 3)) H.size N hZN hN12) (wa tw804 rfl) (wa tw801 rfl) (wa tw802 rfl) (wa tw803 rfl) (wa tw8 rfl) (by decide +kernel) ⟨(Nat.le_of_ble_eq_true rfl), (Nat.le_of_ble_eq_true rfl)⟩ (pVw (sZ hP) (tZ hD) hK hNw 0 rfl rfl) hl.1 rfl (Nat.le_of_ble_eq_true rfl) d_law_872 ⟨(Nat.le_of_ble_eq_true rfl), (Nat.le_of_ble_eq_true rfl)⟩ rfl rfl rfl) hP hD hS hA (fun H locs hP hD hS => ?_)
  have E := sim_bad hSX.1 F Y fm (xs (i + 1)) (xs (i + 2)) (xs (i + 3))
  exact lv_icmp_eq (tgt := 880) hx hb d_law_875 (by decide) (fun _ => kk _ _ _ _ _ _ _ _ _ _ _ _ _ _ _ hsim hP hD hS) (fun q => absurd E q)
