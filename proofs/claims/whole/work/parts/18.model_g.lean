def plL (pl : Nat → Int32) (kk model : Int32) (nt N : Nat) : Nat → Nat → Int32 → Int64 → Int64 → (Nat → Nat → Int64) → Int32 × Int64 × Int64 × (Nat → Nat → Int64)
  | 0, _, b, u, w, Y => (b, u, w, Y)
  | n + 1, q, b, u, w, Y =>
    if f7_bits (nI q) = kk then
      (if (f7_lay pl Y model (nI q) nt N) 5 0 = 0 then plL pl kk model nt N n (q + 1) b u w (f7_lay pl Y model (nI q) nt N)
      else if b < 0 then plL pl kk model nt N n (q + 1) (nI q) (f7_worstOf pl ((f7_lay pl Y model (nI q) nt N) 1) model N) ((f7_lay pl Y model (nI q) nt N) 5 0) (f7_lay pl Y model (nI q) nt N)
      else if ((f7_worstOf pl ((f7_lay pl Y model (nI q) nt N) 1) model N) * w - u * (f7_lay pl Y model (nI q) nt N) 5 0) < 0 then plL pl kk model nt N n (q + 1) (nI q) (f7_worstOf pl ((f7_lay pl Y model (nI q) nt N) 1) model N) ((f7_lay pl Y model (nI q) nt N) 5 0) (f7_lay pl Y model (nI q) nt N)
      else if ((f7_worstOf pl ((f7_lay pl Y model (nI q) nt N) 1) model N) * w - u * (f7_lay pl Y model (nI q) nt N) 5 0) = 0 then (if f7_isAhead (nI q) b = 0 then plL pl kk model nt N n (q + 1) b u w (f7_lay pl Y model (nI q) nt N) else plL pl kk model nt N n (q + 1) (nI q) (f7_worstOf pl ((f7_lay pl Y model (nI q) nt N) 1) model N) ((f7_lay pl Y model (nI q) nt N) 5 0) (f7_lay pl Y model (nI q) nt N))
      else plL pl kk model nt N n (q + 1) b u w (f7_lay pl Y model (nI q) nt N))
    else plL pl kk model nt N n (q + 1) b u w Y

def f7_plan (Z : Nat → Nat → Int32) (Y : Nat → Nat → Int64) (N : Nat) (kk model what : Int32) : Int64 := (if (f7_in kk.toInt64 1 6) = 0 then ((-100002)) else (if (f7_isModel model) = 0 then ((-100002)) else (if (f7_in what.toInt64 0 2) = 0 then ((-100002)) else (if 0 ≤ ((plL (Z 0) kk model (ntOf model) N (2 ^ N) 0 (-1) 0 1 Y).1) then (if what = 0 then (((plL (Z 0) kk model (ntOf model) N (2 ^ N) 0 (-1) 0 1 Y).1).toInt64) else (f7_share ((plL (Z 0) kk model (ntOf model) N (2 ^ N) 0 (-1) 0 1 Y).2.1) ((plL (Z 0) kk model (ntOf model) N (2 ^ N) 0 (-1) 0 1 Y).2.2.1) (what - 1))) else ((-100003))))))
def f7_plan_Y (Z : Nat → Nat → Int32) (Y : Nat → Nat → Int64) (N : Nat) (kk model what : Int32) : Nat → Nat → Int64 := (if (f7_in kk.toInt64 1 6) = 0 then (Y) else (if (f7_isModel model) = 0 then (Y) else (if (f7_in what.toInt64 0 2) = 0 then (Y) else (uM (uM (uM (uM (uM (uM ((plL (Z 0) kk model (ntOf model) N (2 ^ N) 0 (-1) 0 1 Y).2.2.2) 0 ((plL (Z 0) kk model (ntOf model) N (2 ^ N) 0 (-1) 0 1 Y).2.2.2 0)) 1 ((plL (Z 0) kk model (ntOf model) N (2 ^ N) 0 (-1) 0 1 Y).2.2.2 1)) 2 ((plL (Z 0) kk model (ntOf model) N (2 ^ N) 0 (-1) 0 1 Y).2.2.2 2)) 3 ((plL (Z 0) kk model (ntOf model) N (2 ^ N) 0 (-1) 0 1 Y).2.2.2 3)) 4 ((plL (Z 0) kk model (ntOf model) N (2 ^ N) 0 (-1) 0 1 Y).2.2.2 4)) 5 (vp_updL (((plL (Z 0) kk model (ntOf model) N (2 ^ N) 0 (-1) 0 1 Y).2.2.2) 5) 0 ((plL (Z 0) kk model (ntOf model) N (2 ^ N) 0 (-1) 0 1 Y).2.2.2 5 0))))))
set_option maxHeartbeats 4000000 in
set_option maxRecDepth 100000 in
theorem kX7_plan (l : Launch) (D : va_G) (C : Nat → ClassId) (a : Nat → Nat) (Z : Nat → Nat → Int32) (Y : Nat → Nat → Int64) (kk model what : Int32) (sz : Nat) (N : Nat) (hN : Z 12 0 = nI N) (hN12 : N ≤ 12) : Wl l D C yX7_plan cX7_plan 14 3 [.ref (a 0), .int kk, .int model, .int what] (wZ a C Z Y) ((wZ a C Z (f7_plan_Y Z Y N kk model what))) (f7_plan Z Y N kk model what) sz := by
  refine Met.ofW (cc := cX7_plan) (maxL := 14) (ret := (some .long)) (by decide) rfl ?_
  intro p e s m args below meth c s₁ B hml hv
  obtain ⟨rfl, hsz, hP, hK, hNw, hD0⟩ := hv
  have hx := B.exec
  have hb := B.bytes
  have hr := B.returns
  have hts := atoms_spec (ws := wm yX7_plan cX7_plan 14 (some .long)) B.pre
  have hown : s.vm.findClass RX7 = some m.cls := findClass_of_methodNamed B.named
  have hlocks := B.notSynchronized
  have hW : ∀ w ∈ WA, w.before _ s = true := fun w h => hts w (List.mem_cons_of_mem _ h)
  subst hsz
  have hD := hD0.self (sz := s.heap.size)
  generalize hAe : va_A (wZ a C Z Y) s.heap.size = A at hD ⊢
  have hA : ∀ q : Nat, s.heap.size ≤ q → A q := fun q h => by rw [← hAe]; exact Or.inr h
  have hS : va_S A s.heap s.heap [] := va_S.rf
  have hP : va_P D vwCl [((a 0), .inr (7, [.int (Z 12 0), .ref (a 1), .ref (a 2), .ref (a 3), .ref (a 4), .int (Z 12 1), .ref (a 5), .ref (a 6), .ref (a 7), .ref (a 8), .ref (a 9), .int (Z 12 2), .ref (a 10), .int (Z 12 3), .int (Z 12 4), .ref (a 11), .ref (a 12), .long (Y 5 0), .ref (a 13), .ref (a 14), .ref (a 15), .ref (a 16), .ref (a 17)])), ((a 1), eI C 48 (Z 0)), ((a 2), eI C 24 (Z 1)), ((a 3), eZ C 12 (Z 2)), ((a 4), eZ C 12 (Z 3)), ((a 5), eI C 60 (Z 4)), ((a 6), eI C 60 (Z 5)), ((a 7), eI C 60 (Z 6)), ((a 8), eZ C 60 (Z 7)), ((a 9), eZ C 244 (Z 8)), ((a 10), eI C 24 (Z 9)), ((a 11), eJ C 9 (Y 0)), ((a 12), eJ C 9 (Y 1)), ((a 13), eJ C 3 (Y 2)), ((a 14), eJ C 3 (Y 3)), ((a 15), eJ C 12 (Y 4)), ((a 16), eI C 6 (Z 10)), ((a 17), eI C 4 (Z 11))] s.heap := hP
  have hD : va_D A [((a 0), .inr (7, [.int (Z 12 0), .ref (a 1), .ref (a 2), .ref (a 3), .ref (a 4), .int (Z 12 1), .ref (a 5), .ref (a 6), .ref (a 7), .ref (a 8), .ref (a 9), .int (Z 12 2), .ref (a 10), .int (Z 12 3), .int (Z 12 4), .ref (a 11), .ref (a 12), .long (Y 5 0), .ref (a 13), .ref (a 14), .ref (a 15), .ref (a 16), .ref (a 17)])), ((a 1), eI C 48 (Z 0)), ((a 2), eI C 24 (Z 1)), ((a 3), eZ C 12 (Z 2)), ((a 4), eZ C 12 (Z 3)), ((a 5), eI C 60 (Z 4)), ((a 6), eI C 60 (Z 5)), ((a 7), eI C 60 (Z 6)), ((a 8), eZ C 60 (Z 7)), ((a 9), eZ C 244 (Z 8)), ((a 10), eI C 24 (Z 9)), ((a 11), eJ C 9 (Y 0)), ((a 12), eJ C 9 (Y 1)), ((a 13), eJ C 3 (Y 2)), ((a 14), eJ C 3 (Y 3)), ((a 15), eJ C 12 (Y 4)), ((a 16), eI C 6 (Z 10)), ((a 17), eI C 4 (Z 11))] := hD
  have hl := lv_entry ([.ref (a 0), .int kk, .int model, .int what]) (n := 14) (Nat.le_of_ble_eq_true rfl)
  rw [lg_entry_eq]
  generalize (lg_sl ([.ref (a 0), .int kk, .int model, .int what]) ++ List.replicate (14 - (lg_sl ([.ref (a 0), .int kk, .int model, .int what])).length) Slot.unset).toArray = ls at hl ⊢
  have hl : lv_has ls 14 [(0, .ref (a 0)), (1, .int kk), (2, .int model), (3, .int what)] := hl
  refine lv_iload_n hx hb dX7_plan_0 rfl (lv_at hl 1 rfl) ?_
  refine lv_i2l (v := kk.toInt64) hx hb dX7_plan_1 rfl ?_
  refine lv_lconst (v := 1) hx hb dX7_plan_2 (by decide) ?_
  refine lv_ldc2 hx hb hown (hW _ (wa tw738 rfl)) dX7_plan_3 ?_
  refine xri (r := f7_in kk.toInt64 1 6) (rS (As := [.long kk.toInt64, .long 1, .long 6]) (n := 3) (rest := []) ⟨hx, hb, hml, hown, hW⟩ (kX7_in l kk.toInt64 1 6) (wa tw628 rfl) (wa tw626 rfl) (wa tw627 rfl) (wa tw8 rfl) (by decide +kernel) ⟨Nat.le_of_ble_eq_true rfl, Nat.le_of_ble_eq_true rfl⟩ pS0 hl.1 rfl (Nat.le_of_ble_eq_true rfl) dX7_plan_6 ⟨Nat.le_of_ble_eq_true rfl, Nat.le_of_ble_eq_true rfl⟩ rfl rfl rfl) ?_
  refine lv_if_eq (tgt := 31) hx hb dX7_plan_9 (by decide) (fun c_1 => ?_) (fun c_1 => ?_)
  · refine lv_ldc2 hx hb hown (hW _ (wa tw680 rfl)) dX7_plan_31 ?_
    have hb_0 : (f7_plan_Y Z Y N kk model what) = Y := (by simp only [f7_plan, f7_plan_Y, if_pos c_1])
    have hP9 : va_P D vwCl ((wZ a C Z (f7_plan_Y Z Y N kk model what))) s.heap := by rw [hb_0]; exact hP
    have hD9 : va_D A ((wZ a C Z (f7_plan_Y Z Y N kk model what))) := by rw [hb_0]; exact hD
    exact W.lret (v := (-100002)) hx hb hr (fun t ht _ => ⟨⟨_, (), rfl, (by simp only [f7_plan, f7_plan_Y, if_pos c_1]), ⟨by rw [ht]; exact hP9, by rw [hAe]; exact hD9⟩⟩, hS.F ht⟩) hS.2.2 dX7_plan_34
  · refine lv_iload_n hx hb dX7_plan_12 rfl (lv_at hl 2 rfl) ?_
    refine xri (r := f7_isModel model) (rS (As := [.int model]) (n := 1) (rest := []) ⟨hx, hb, hml, hown, hW⟩ (kX7_isModel l model) (wa tw678 rfl) (wa tw676 rfl) (wa tw677 rfl) (wa tw8 rfl) (by decide +kernel) ⟨Nat.le_of_ble_eq_true rfl, Nat.le_of_ble_eq_true rfl⟩ pS0 hl.1 rfl (Nat.le_of_ble_eq_true rfl) dX7_plan_13 ⟨Nat.le_of_ble_eq_true rfl, Nat.le_of_ble_eq_true rfl⟩ rfl rfl rfl) ?_
    refine lv_if_eq (tgt := 31) hx hb dX7_plan_16 (by decide) (fun c_2 => ?_) (fun c_2 => ?_)
    · refine lv_ldc2 hx hb hown (hW _ (wa tw680 rfl)) dX7_plan_31 ?_
      have hb_0 : (f7_plan_Y Z Y N kk model what) = Y := (by simp only [f7_plan, f7_plan_Y, if_neg c_1, if_pos c_2])
      have hP9 : va_P D vwCl ((wZ a C Z (f7_plan_Y Z Y N kk model what))) s.heap := by rw [hb_0]; exact hP
      have hD9 : va_D A ((wZ a C Z (f7_plan_Y Z Y N kk model what))) := by rw [hb_0]; exact hD
      exact W.lret (v := (-100002)) hx hb hr (fun t ht _ => ⟨⟨_, (), rfl, (by simp only [f7_plan, f7_plan_Y, if_neg c_1, if_pos c_2]), ⟨by rw [ht]; exact hP9, by rw [hAe]; exact hD9⟩⟩, hS.F ht⟩) hS.2.2 dX7_plan_34
    · refine lv_iload_n hx hb dX7_plan_19 rfl (lv_at hl 3 rfl) ?_
      refine lv_i2l (v := what.toInt64) hx hb dX7_plan_20 rfl ?_
      refine lv_lconst (v := 0) hx hb dX7_plan_21 (by decide) ?_
      refine lv_ldc2 hx hb hown (hW _ (wa tw679 rfl)) dX7_plan_22 ?_
      refine xri (r := f7_in what.toInt64 0 2) (rS (As := [.long what.toInt64, .long 0, .long 2]) (n := 3) (rest := []) ⟨hx, hb, hml, hown, hW⟩ (kX7_in l what.toInt64 0 2) (wa tw628 rfl) (wa tw626 rfl) (wa tw627 rfl) (wa tw8 rfl) (by decide +kernel) ⟨Nat.le_of_ble_eq_true rfl, Nat.le_of_ble_eq_true rfl⟩ pS0 hl.1 rfl (Nat.le_of_ble_eq_true rfl) dX7_plan_25 ⟨Nat.le_of_ble_eq_true rfl, Nat.le_of_ble_eq_true rfl⟩ rfl rfl rfl) ?_
      refine lv_if_ne (tgt := 35) hx hb dX7_plan_28 (by decide) (fun c_3 => ?_) (fun c_3 => ?_)
      · have hp4 : 2 ^ N ≤ 4096 := (Nat.pow_le_pow_right (by decide) hN12 : 2 ^ N ≤ 2 ^ 12)
        refine lv_iconst (v := (-1)) hx hb dX7_plan_35 (by decide) ?_
        refine lv_istore (lv' := [(4, .int (-1)), (0, .ref (a 0)), (1, .int kk), (2, .int model), (3, .int what)]) hx hb dX7_plan_36 hl (by decide) rfl (fun ls hl => ?_)
        refine lv_lconst (v := 0) hx hb dX7_plan_38 (by decide) ?_
        refine lv_lstore (lv' := [(5, .long 0), (4, .int (-1)), (0, .ref (a 0)), (1, .int kk), (2, .int model), (3, .int what)]) hx hb dX7_plan_39 hl (by decide) rfl (fun ls hl => ?_)
        refine lv_lconst (v := 1) hx hb dX7_plan_41 (by decide) ?_
        refine lv_lstore (lv' := [(7, .long 1), (5, .long 0), (4, .int (-1)), (0, .ref (a 0)), (1, .int kk), (2, .int model), (3, .int what)]) hx hb dX7_plan_42 hl (by decide) rfl (fun ls hl => ?_)
        refine lv_iconst (v := 0) hx hb dX7_plan_44 (by decide) ?_
        refine lv_istore (lv' := [(9, .int 0), (7, .long 1), (5, .long 0), (4, .int (-1)), (0, .ref (a 0)), (1, .int kk), (2, .int model), (3, .int what)]) hx hb dX7_plan_45 hl (by decide) rfl (fun ls hl => ?_)
        refine xgen hP hS (fun H locs hP hS => ?_)
        obtain ⟨n47, q, b, u, w, Yv, hinv⟩ : ∃ (n47 : Nat) (q : Nat) (b : Int32) (u : Int64) (w : Int64) (Yv : Nat → Nat → Int64), (q + n47 = 2 ^ N) ∧ (plL (Z 0) kk model (ntOf model) N n47 q b u w Yv = (plL (Z 0) kk model (ntOf model) N (2 ^ N) 0 (-1) 0 1 Y)) ∧ (¬ w = 0) ∧ lv_has ls 14 [(0, .ref (a 0)), (1, .int kk), (2, .int model), (3, .int what), (4, .int b), (5, .long u), (7, .long w), (9, .int (nI q))] ∧ va_P D vwCl [((a 0), .inr (7, [.int (Z 12 0), .ref (a 1), .ref (a 2), .ref (a 3), .ref (a 4), .int (Z 12 1), .ref (a 5), .ref (a 6), .ref (a 7), .ref (a 8), .ref (a 9), .int (Z 12 2), .ref (a 10), .int (Z 12 3), .int (Z 12 4), .ref (a 11), .ref (a 12), .long (Yv 5 0), .ref (a 13), .ref (a 14), .ref (a 15), .ref (a 16), .ref (a 17)])), ((a 1), eI C 48 (Z 0)), ((a 2), eI C 24 (Z 1)), ((a 3), eZ C 12 (Z 2)), ((a 4), eZ C 12 (Z 3)), ((a 5), eI C 60 (Z 4)), ((a 6), eI C 60 (Z 5)), ((a 7), eI C 60 (Z 6)), ((a 8), eZ C 60 (Z 7)), ((a 9), eZ C 244 (Z 8)), ((a 10), eI C 24 (Z 9)), ((a 11), eJ C 9 (Yv 0)), ((a 12), eJ C 9 (Yv 1)), ((a 13), eJ C 3 (Yv 2)), ((a 14), eJ C 3 (Yv 3)), ((a 15), eJ C 12 (Yv 4)), ((a 16), eI C 6 (Z 10)), ((a 17), eI C 4 (Z 11))] H ∧ va_D A [((a 0), .inr (7, [.int (Z 12 0), .ref (a 1), .ref (a 2), .ref (a 3), .ref (a 4), .int (Z 12 1), .ref (a 5), .ref (a 6), .ref (a 7), .ref (a 8), .ref (a 9), .int (Z 12 2), .ref (a 10), .int (Z 12 3), .int (Z 12 4), .ref (a 11), .ref (a 12), .long (Yv 5 0), .ref (a 13), .ref (a 14), .ref (a 15), .ref (a 16), .ref (a 17)])), ((a 1), eI C 48 (Z 0)), ((a 2), eI C 24 (Z 1)), ((a 3), eZ C 12 (Z 2)), ((a 4), eZ C 12 (Z 3)), ((a 5), eI C 60 (Z 4)), ((a 6), eI C 60 (Z 5)), ((a 7), eI C 60 (Z 6)), ((a 8), eZ C 60 (Z 7)), ((a 9), eZ C 244 (Z 8)), ((a 10), eI C 24 (Z 9)), ((a 11), eJ C 9 (Yv 0)), ((a 12), eJ C 9 (Yv 1)), ((a 13), eJ C 3 (Yv 2)), ((a 14), eJ C 3 (Yv 3)), ((a 15), eJ C 12 (Yv 4)), ((a 16), eI C 6 (Z 10)), ((a 17), eI C 4 (Z 11))] ∧ va_S A s.heap H locs := ⟨(2 ^ N), 0, (-1), 0, 1, Y, by omega, rfl, by decide, lv_sub hl [4, 5, 6, 7, 3, 2, 1, 0] rfl, hP, hD, hS⟩
        clear hl hP hD hS
        induction n47 generalizing q b u w Yv ls H locs with
        | zero =>
          obtain ⟨h47_0, h47_1, h47_2, hl, hP, hD, hS⟩ := hinv
          refine lv_iload hx hb dX7_plan_47 (lv_at hl 7 rfl) ?_
          refine lv_iconst (v := 1) hx hb dX7_plan_49 (by decide) ?_
          refine lv_aload_n hx hb dX7_plan_50 rfl (lv_at hl 0 rfl) ?_
          refine va_get (D := D) (ci := 7) (C := RX7) (T := TX7) (N := 23) hx hb hW inX7 hown hK hP 0 rfl rfl 0 (by decide) (hW _ (wa tw550 rfl)) (fun _ h9 => h9) rfl dX7_plan_51 ?_
          refine lv_ishl hx hb dX7_plan_54 ?_
          refine xtopi (y := nI (2 ^ N)) (q_shl hN (by omega)) ?_
          refine lv_icmp_ge (tgt := 154) hx hb dX7_plan_55 (by decide) (fun c_4 => ?_) (fun c_4 => ?_)
          · have e_b : b = (plL (Z 0) kk model (ntOf model) N (2 ^ N) 0 (-1) 0 1 Y).1 := congrArg (fun z => z.1) h47_1
            have e_u : u = (plL (Z 0) kk model (ntOf model) N (2 ^ N) 0 (-1) 0 1 Y).2.1 := congrArg (fun z => z.2.1) h47_1
            have e_w : w = (plL (Z 0) kk model (ntOf model) N (2 ^ N) 0 (-1) 0 1 Y).2.2.1 := congrArg (fun z => z.2.2.1) h47_1
            have e_Yv : Yv = (plL (Z 0) kk model (ntOf model) N (2 ^ N) 0 (-1) 0 1 Y).2.2.2 := congrArg (fun z => z.2.2.2) h47_1
            subst e_b
            subst e_u
            subst e_w
            subst e_Yv
            refine lv_iload hx hb dX7_plan_154 (lv_at hl 4 rfl) ?_
            refine lv_if_ge (tgt := 165) hx hb dX7_plan_156 (by decide) (fun c_5 => ?_) (fun c_5 => ?_)
            · refine lv_iload_n hx hb dX7_plan_165 rfl (lv_at hl 3 rfl) ?_
              refine lv_if_ne (tgt := 175) hx hb dX7_plan_166 (by decide) (fun c_6 => ?_) (fun c_6 => ?_)
              · refine lv_lload hx hb dX7_plan_175 (lv_at hl 5 rfl) ?_
                refine lv_lload hx hb dX7_plan_177 (lv_at hl 6 rfl) ?_
                refine lv_iload_n hx hb dX7_plan_179 rfl (lv_at hl 3 rfl) ?_
                refine lv_iconst (v := 1) hx hb dX7_plan_180 (by decide) ?_
                refine lv_isub hx hb dX7_plan_181 ?_
                refine xrl (r := f7_share ((plL (Z 0) kk model (ntOf model) N (2 ^ N) 0 (-1) 0 1 Y).2.1) ((plL (Z 0) kk model (ntOf model) N (2 ^ N) 0 (-1) 0 1 Y).2.2.1) (what - 1)) (rS (As := [.long ((plL (Z 0) kk model (ntOf model) N (2 ^ N) 0 (-1) 0 1 Y).2.1), .long ((plL (Z 0) kk model (ntOf model) N (2 ^ N) 0 (-1) 0 1 Y).2.2.1), .int (what - 1)]) (n := 3) (rest := []) ⟨hx, hb, hml, hown, hW⟩ (kX7_share l ((plL (Z 0) kk model (ntOf model) N (2 ^ N) 0 (-1) 0 1 Y).2.1) ((plL (Z 0) kk model (ntOf model) N (2 ^ N) 0 (-1) 0 1 Y).2.2.1) (what - 1) h47_2) (wa tw707 rfl) (wa tw705 rfl) (wa tw706 rfl) (wa tw8 rfl) (by decide +kernel) ⟨Nat.le_of_ble_eq_true rfl, Nat.le_of_ble_eq_true rfl⟩ pS0 hl.1 rfl (Nat.le_of_ble_eq_true rfl) dX7_plan_182 ⟨Nat.le_of_ble_eq_true rfl, Nat.le_of_ble_eq_true rfl⟩ rfl rfl rfl) ?_
                have hb_0 : (f7_plan_Y Z Y N kk model what) = uM (uM (uM (uM (uM (uM ((plL (Z 0) kk model (ntOf model) N (2 ^ N) 0 (-1) 0 1 Y).2.2.2) 0 ((plL (Z 0) kk model (ntOf model) N (2 ^ N) 0 (-1) 0 1 Y).2.2.2 0)) 1 ((plL (Z 0) kk model (ntOf model) N (2 ^ N) 0 (-1) 0 1 Y).2.2.2 1)) 2 ((plL (Z 0) kk model (ntOf model) N (2 ^ N) 0 (-1) 0 1 Y).2.2.2 2)) 3 ((plL (Z 0) kk model (ntOf model) N (2 ^ N) 0 (-1) 0 1 Y).2.2.2 3)) 4 ((plL (Z 0) kk model (ntOf model) N (2 ^ N) 0 (-1) 0 1 Y).2.2.2 4)) 5 (vp_updL (((plL (Z 0) kk model (ntOf model) N (2 ^ N) 0 (-1) 0 1 Y).2.2.2) 5) 0 ((plL (Z 0) kk model (ntOf model) N (2 ^ N) 0 (-1) 0 1 Y).2.2.2 5 0)) := (by simp only [f7_plan, f7_plan_Y, if_neg c_1, if_neg c_2, if_neg c_3, if_pos c_5, if_neg c_6])
                have hP9 : va_P D vwCl ((wZ a C Z (f7_plan_Y Z Y N kk model what))) H := by rw [hb_0]; exact hP
                have hD9 : va_D A ((wZ a C Z (f7_plan_Y Z Y N kk model what))) := by rw [hb_0]; exact hD
                exact W.lret (v := f7_share ((plL (Z 0) kk model (ntOf model) N (2 ^ N) 0 (-1) 0 1 Y).2.1) ((plL (Z 0) kk model (ntOf model) N (2 ^ N) 0 (-1) 0 1 Y).2.2.1) (what - 1)) hx hb hr (fun t ht _ => ⟨⟨_, (), rfl, (by simp only [f7_plan, f7_plan_Y, if_neg c_1, if_neg c_2, if_neg c_3, if_pos c_5, if_neg c_6]), ⟨by rw [ht]; exact hP9, by rw [hAe]; exact hD9⟩⟩, hS.F ht⟩) hS.2.2 dX7_plan_185
              · refine lv_iload hx hb dX7_plan_169 (lv_at hl 4 rfl) ?_
                refine lv_i2l (v := ((plL (Z 0) kk model (ntOf model) N (2 ^ N) 0 (-1) 0 1 Y).1).toInt64) hx hb dX7_plan_171 rfl ?_
                refine lv_goto (tgt := 185) hx hb dX7_plan_172 (by decide) ?_
                have hb_0 : (f7_plan_Y Z Y N kk model what) = uM (uM (uM (uM (uM (uM ((plL (Z 0) kk model (ntOf model) N (2 ^ N) 0 (-1) 0 1 Y).2.2.2) 0 ((plL (Z 0) kk model (ntOf model) N (2 ^ N) 0 (-1) 0 1 Y).2.2.2 0)) 1 ((plL (Z 0) kk model (ntOf model) N (2 ^ N) 0 (-1) 0 1 Y).2.2.2 1)) 2 ((plL (Z 0) kk model (ntOf model) N (2 ^ N) 0 (-1) 0 1 Y).2.2.2 2)) 3 ((plL (Z 0) kk model (ntOf model) N (2 ^ N) 0 (-1) 0 1 Y).2.2.2 3)) 4 ((plL (Z 0) kk model (ntOf model) N (2 ^ N) 0 (-1) 0 1 Y).2.2.2 4)) 5 (vp_updL (((plL (Z 0) kk model (ntOf model) N (2 ^ N) 0 (-1) 0 1 Y).2.2.2) 5) 0 ((plL (Z 0) kk model (ntOf model) N (2 ^ N) 0 (-1) 0 1 Y).2.2.2 5 0)) := (by simp only [f7_plan, f7_plan_Y, if_neg c_1, if_neg c_2, if_neg c_3, if_pos c_5, if_pos c_6])
                have hP9 : va_P D vwCl ((wZ a C Z (f7_plan_Y Z Y N kk model what))) H := by rw [hb_0]; exact hP
                have hD9 : va_D A ((wZ a C Z (f7_plan_Y Z Y N kk model what))) := by rw [hb_0]; exact hD
                exact W.lret (v := ((plL (Z 0) kk model (ntOf model) N (2 ^ N) 0 (-1) 0 1 Y).1).toInt64) hx hb hr (fun t ht _ => ⟨⟨_, (), rfl, (by simp only [f7_plan, f7_plan_Y, if_neg c_1, if_neg c_2, if_neg c_3, if_pos c_5, if_pos c_6]), ⟨by rw [ht]; exact hP9, by rw [hAe]; exact hD9⟩⟩, hS.F ht⟩) hS.2.2 dX7_plan_185
            · refine lv_ldc2 hx hb hown (hW _ (wa tw704 rfl)) dX7_plan_159 ?_
              refine lv_goto (tgt := 185) hx hb dX7_plan_162 (by decide) ?_
              have hb_0 : (f7_plan_Y Z Y N kk model what) = uM (uM (uM (uM (uM (uM ((plL (Z 0) kk model (ntOf model) N (2 ^ N) 0 (-1) 0 1 Y).2.2.2) 0 ((plL (Z 0) kk model (ntOf model) N (2 ^ N) 0 (-1) 0 1 Y).2.2.2 0)) 1 ((plL (Z 0) kk model (ntOf model) N (2 ^ N) 0 (-1) 0 1 Y).2.2.2 1)) 2 ((plL (Z 0) kk model (ntOf model) N (2 ^ N) 0 (-1) 0 1 Y).2.2.2 2)) 3 ((plL (Z 0) kk model (ntOf model) N (2 ^ N) 0 (-1) 0 1 Y).2.2.2 3)) 4 ((plL (Z 0) kk model (ntOf model) N (2 ^ N) 0 (-1) 0 1 Y).2.2.2 4)) 5 (vp_updL (((plL (Z 0) kk model (ntOf model) N (2 ^ N) 0 (-1) 0 1 Y).2.2.2) 5) 0 ((plL (Z 0) kk model (ntOf model) N (2 ^ N) 0 (-1) 0 1 Y).2.2.2 5 0)) := (by simp only [f7_plan, f7_plan_Y, if_neg c_1, if_neg c_2, if_neg c_3, if_neg c_5])
              have hP9 : va_P D vwCl ((wZ a C Z (f7_plan_Y Z Y N kk model what))) H := by rw [hb_0]; exact hP
              have hD9 : va_D A ((wZ a C Z (f7_plan_Y Z Y N kk model what))) := by rw [hb_0]; exact hD
              exact W.lret (v := (-100003)) hx hb hr (fun t ht _ => ⟨⟨_, (), rfl, (by simp only [f7_plan, f7_plan_Y, if_neg c_1, if_neg c_2, if_neg c_3, if_neg c_5]), ⟨by rw [ht]; exact hP9, by rw [hAe]; exact hD9⟩⟩, hS.F ht⟩) hS.2.2 dX7_plan_185
          · exact absurd (q_le rfl rfl (by omega) (by omega)) c_4
        | succ n47 ih47 =>
          obtain ⟨h47_0, h47_1, h47_2, hl, hP, hD, hS⟩ := hinv
          refine lv_iload hx hb dX7_plan_47 (lv_at hl 7 rfl) ?_
          refine lv_iconst (v := 1) hx hb dX7_plan_49 (by decide) ?_
          refine lv_aload_n hx hb dX7_plan_50 rfl (lv_at hl 0 rfl) ?_
          refine va_get (D := D) (ci := 7) (C := RX7) (T := TX7) (N := 23) hx hb hW inX7 hown hK hP 0 rfl rfl 0 (by decide) (hW _ (wa tw550 rfl)) (fun _ h9 => h9) rfl dX7_plan_51 ?_
          refine lv_ishl hx hb dX7_plan_54 ?_
          refine xtopi (y := nI (2 ^ N)) (q_shl hN (by omega)) ?_
          refine lv_icmp_ge (tgt := 154) hx hb dX7_plan_55 (by decide) (fun c_7 => ?_) (fun c_7 => ?_)
          · exact absurd c_7 (q_nle rfl rfl (by omega) (by omega))
          · refine lv_iload hx hb dX7_plan_58 (lv_at hl 7 rfl) ?_
            refine xri (r := f7_bits (nI q)) (rS (As := [.int (nI q)]) (n := 1) (rest := []) ⟨hx, hb, hml, hown, hW⟩ (kX7_bits l (nI q)) (wa tw667 rfl) (wa tw665 rfl) (wa tw666 rfl) (wa tw8 rfl) (by decide +kernel) ⟨Nat.le_of_ble_eq_true rfl, Nat.le_of_ble_eq_true rfl⟩ pS0 hl.1 rfl (Nat.le_of_ble_eq_true rfl) dX7_plan_60 ⟨Nat.le_of_ble_eq_true rfl, Nat.le_of_ble_eq_true rfl⟩ rfl rfl rfl) ?_
            refine lv_iload_n hx hb dX7_plan_63 rfl (lv_at hl 1 rfl) ?_
            refine lv_icmp_ne (tgt := 148) hx hb dX7_plan_64 (by decide) (fun c_8 => ?_) (fun c_8 => ?_)
            · refine lv_iinc (v := nI q + 1) (lv' := [(9, .int (nI q + 1)), (0, .ref (a 0)), (1, .int kk), (2, .int model), (3, .int what), (4, .int b), (5, .long u), (7, .long w)]) hx hb dX7_plan_148 hl (k := 7) rfl rfl (by decide) rfl (fun ls hl => ?_)
              refine lv_goto (tgt := 47) hx hb dX7_plan_151 (by decide) ?_
              rw [nI_1] at hl
              exact ih47 (q := q + 1) (b := b) (u := u) (w := w) (Yv := Yv) (ls := ls) (H := H) (locs := locs) ⟨by omega, by rw [← h47_1, plL]; simp only [if_neg c_8], h47_2, lv_sub hl [1, 2, 3, 4, 5, 6, 7, 0] rfl, hP, hD, hS⟩
            · refine lv_aload_n hx hb dX7_plan_67 rfl (lv_at hl 0 rfl) ?_
              refine lv_iload_n hx hb dX7_plan_68 rfl (lv_at hl 2 rfl) ?_
              refine lv_iload hx hb dX7_plan_69 (lv_at hl 7 rfl) ?_
              refine xwv (wr := []) (rV (As := [.int model, .int (nI q)]) (n := 2) (rest := []) ⟨hx, hb, hml, hown, hW⟩ (kX7_lay l D C a Z Yv model (nI q) H.size N hN hN12 (ntOf model) (ntOf_eq _) (ntOf_13 _)) (wa tw684 rfl) (wa tw681 rfl) (wa tw683 rfl) (was ts41 rfl) (wa tw8 rfl) (by decide +kernel) ⟨Nat.le_of_ble_eq_true rfl, Nat.le_of_ble_eq_true rfl⟩ (pVw hP hD hK hNw 0 rfl rfl) hl.1 rfl (Nat.le_of_ble_eq_true rfl) dX7_plan_71 ⟨Nat.le_of_ble_eq_true rfl, Nat.le_of_ble_eq_true rfl⟩ rfl rfl rfl) hP hD hS hA [0, 1, 2, 3, 4, 5, 6, 7, 8, 9, 10, 11, 12, 13, 14, 15, 16, 17] [] rfl rfl (by decide) (by decide) (fun H locs hP hD hS => ?_)
              have hP : va_P D vwCl [((a 0), .inr (7, [.int (Z 12 0), .ref (a 1), .ref (a 2), .ref (a 3), .ref (a 4), .int (Z 12 1), .ref (a 5), .ref (a 6), .ref (a 7), .ref (a 8), .ref (a 9), .int (Z 12 2), .ref (a 10), .int (Z 12 3), .int (Z 12 4), .ref (a 11), .ref (a 12), .long ((f7_lay (Z 0) Yv model (nI q) (ntOf model) N) 5 0), .ref (a 13), .ref (a 14), .ref (a 15), .ref (a 16), .ref (a 17)])), ((a 1), eI C 48 (Z 0)), ((a 2), eI C 24 (Z 1)), ((a 3), eZ C 12 (Z 2)), ((a 4), eZ C 12 (Z 3)), ((a 5), eI C 60 (Z 4)), ((a 6), eI C 60 (Z 5)), ((a 7), eI C 60 (Z 6)), ((a 8), eZ C 60 (Z 7)), ((a 9), eZ C 244 (Z 8)), ((a 10), eI C 24 (Z 9)), ((a 11), eJ C 9 ((f7_lay (Z 0) Yv model (nI q) (ntOf model) N) 0)), ((a 12), eJ C 9 ((f7_lay (Z 0) Yv model (nI q) (ntOf model) N) 1)), ((a 13), eJ C 3 ((f7_lay (Z 0) Yv model (nI q) (ntOf model) N) 2)), ((a 14), eJ C 3 ((f7_lay (Z 0) Yv model (nI q) (ntOf model) N) 3)), ((a 15), eJ C 12 ((f7_lay (Z 0) Yv model (nI q) (ntOf model) N) 4)), ((a 16), eI C 6 (Z 10)), ((a 17), eI C 4 (Z 11))] H := hP
              have hD : va_D A [((a 0), .inr (7, [.int (Z 12 0), .ref (a 1), .ref (a 2), .ref (a 3), .ref (a 4), .int (Z 12 1), .ref (a 5), .ref (a 6), .ref (a 7), .ref (a 8), .ref (a 9), .int (Z 12 2), .ref (a 10), .int (Z 12 3), .int (Z 12 4), .ref (a 11), .ref (a 12), .long ((f7_lay (Z 0) Yv model (nI q) (ntOf model) N) 5 0), .ref (a 13), .ref (a 14), .ref (a 15), .ref (a 16), .ref (a 17)])), ((a 1), eI C 48 (Z 0)), ((a 2), eI C 24 (Z 1)), ((a 3), eZ C 12 (Z 2)), ((a 4), eZ C 12 (Z 3)), ((a 5), eI C 60 (Z 4)), ((a 6), eI C 60 (Z 5)), ((a 7), eI C 60 (Z 6)), ((a 8), eZ C 60 (Z 7)), ((a 9), eZ C 244 (Z 8)), ((a 10), eI C 24 (Z 9)), ((a 11), eJ C 9 ((f7_lay (Z 0) Yv model (nI q) (ntOf model) N) 0)), ((a 12), eJ C 9 ((f7_lay (Z 0) Yv model (nI q) (ntOf model) N) 1)), ((a 13), eJ C 3 ((f7_lay (Z 0) Yv model (nI q) (ntOf model) N) 2)), ((a 14), eJ C 3 ((f7_lay (Z 0) Yv model (nI q) (ntOf model) N) 3)), ((a 15), eJ C 12 ((f7_lay (Z 0) Yv model (nI q) (ntOf model) N) 4)), ((a 16), eI C 6 (Z 10)), ((a 17), eI C 4 (Z 11))] := hD
              refine lv_aload_n hx hb dX7_plan_74 rfl (lv_at hl 0 rfl) ?_
              refine va_get (D := D) (ci := 7) (C := RX7) (T := TX7) (N := 23) hx hb hW inX7 hown hK hP 0 rfl rfl 17 (by decide) (hW _ (wa tw567 rfl)) (fun _ h9 => h9) rfl dX7_plan_75 ?_
              refine lv_lconst (v := 0) hx hb dX7_plan_78 (by decide) ?_
              refine xlcmp_eq (tgt := 148) hx hb dX7_plan_79 dX7_plan_80 (by decide) (fun c_9 => ?_) (fun c_9 => ?_)
              · refine lv_iinc (v := nI q + 1) (lv' := [(9, .int (nI q + 1)), (0, .ref (a 0)), (1, .int kk), (2, .int model), (3, .int what), (4, .int b), (5, .long u), (7, .long w)]) hx hb dX7_plan_148 hl (k := 7) rfl rfl (by decide) rfl (fun ls hl => ?_)
                refine lv_goto (tgt := 47) hx hb dX7_plan_151 (by decide) ?_
                rw [nI_1] at hl
                exact ih47 (q := q + 1) (b := b) (u := u) (w := w) (Yv := (f7_lay (Z 0) Yv model (nI q) (ntOf model) N)) (ls := ls) (H := H) (locs := locs) ⟨by omega, by rw [← h47_1, plL]; simp only [if_pos c_8, if_pos c_9], h47_2, lv_sub hl [1, 2, 3, 4, 5, 6, 7, 0] rfl, hP, hD, hS⟩
              · refine lv_aload_n hx hb dX7_plan_83 rfl (lv_at hl 0 rfl) ?_
                refine lv_iload_n hx hb dX7_plan_84 rfl (lv_at hl 2 rfl) ?_
                refine xrl (r := f7_worstOf (Z 0) ((f7_lay (Z 0) Yv model (nI q) (ntOf model) N) 1) model N) (rV (As := [.int model]) (n := 1) (rest := []) ⟨hx, hb, hml, hown, hW⟩ (kX7_worstOf l D C a Z (f7_lay (Z 0) Yv model (nI q) (ntOf model) N) model N hN hN12) (wa tw742 rfl) (wa tw739 rfl) (wa tw741 rfl) (was ts47 rfl) (wa tw8 rfl) (by decide +kernel) ⟨Nat.le_of_ble_eq_true rfl, Nat.le_of_ble_eq_true rfl⟩ (pVr hP hK hNw 0 rfl rfl) hl.1 rfl (Nat.le_of_ble_eq_true rfl) dX7_plan_85 ⟨Nat.le_of_ble_eq_true rfl, Nat.le_of_ble_eq_true rfl⟩ rfl rfl rfl) ?_
                refine lv_lstore (lv' := [(10, .long (f7_worstOf (Z 0) ((f7_lay (Z 0) Yv model (nI q) (ntOf model) N) 1) model N)), (0, .ref (a 0)), (1, .int kk), (2, .int model), (3, .int what), (4, .int b), (5, .long u), (7, .long w), (9, .int (nI q))]) hx hb dX7_plan_88 hl (by decide) rfl (fun ls hl => ?_)
                refine lv_lload hx hb dX7_plan_90 (lv_at hl 0 rfl) ?_
                refine lv_lload hx hb dX7_plan_92 (lv_at hl 7 rfl) ?_
                refine lv_lmul hx hb dX7_plan_94 ?_
                refine lv_lload hx hb dX7_plan_95 (lv_at hl 6 rfl) ?_
                refine lv_aload_n hx hb dX7_plan_97 rfl (lv_at hl 1 rfl) ?_
                refine va_get (D := D) (ci := 7) (C := RX7) (T := TX7) (N := 23) hx hb hW inX7 hown hK hP 0 rfl rfl 17 (by decide) (hW _ (wa tw567 rfl)) (fun _ h9 => h9) rfl dX7_plan_98 ?_
                refine lv_lmul hx hb dX7_plan_101 ?_
                refine lv_lsub hx hb dX7_plan_102 ?_
                refine lv_lstore (lv' := [(12, .long (((f7_worstOf (Z 0) ((f7_lay (Z 0) Yv model (nI q) (ntOf model) N) 1) model N) * w) - (u * ((f7_lay (Z 0) Yv model (nI q) (ntOf model) N) 5 0)))), (10, .long (f7_worstOf (Z 0) ((f7_lay (Z 0) Yv model (nI q) (ntOf model) N) 1) model N)), (0, .ref (a 0)), (1, .int kk), (2, .int model), (3, .int what), (4, .int b), (5, .long u), (7, .long w), (9, .int (nI q))]) hx hb dX7_plan_103 hl (by decide) rfl (fun ls hl => ?_)
                refine lv_iload hx hb dX7_plan_105 (lv_at hl 6 rfl) ?_
                refine lv_if_lt (tgt := 134) hx hb dX7_plan_107 (by decide) (fun c_10 => ?_) (fun c_10 => ?_)
                · refine lv_iload hx hb dX7_plan_134 (lv_at hl 9 rfl) ?_
                  refine lv_istore (lv' := [(4, .int (nI q)), (12, .long (((f7_worstOf (Z 0) ((f7_lay (Z 0) Yv model (nI q) (ntOf model) N) 1) model N) * w) - (u * ((f7_lay (Z 0) Yv model (nI q) (ntOf model) N) 5 0)))), (10, .long (f7_worstOf (Z 0) ((f7_lay (Z 0) Yv model (nI q) (ntOf model) N) 1) model N)), (0, .ref (a 0)), (1, .int kk), (2, .int model), (3, .int what), (5, .long u), (7, .long w), (9, .int (nI q))]) hx hb dX7_plan_136 hl (by decide) rfl (fun ls hl => ?_)
                  refine lv_lload hx hb dX7_plan_138 (lv_at hl 2 rfl) ?_
                  refine lv_lstore (lv' := [(5, .long (f7_worstOf (Z 0) ((f7_lay (Z 0) Yv model (nI q) (ntOf model) N) 1) model N)), (4, .int (nI q)), (12, .long (((f7_worstOf (Z 0) ((f7_lay (Z 0) Yv model (nI q) (ntOf model) N) 1) model N) * w) - (u * ((f7_lay (Z 0) Yv model (nI q) (ntOf model) N) 5 0)))), (10, .long (f7_worstOf (Z 0) ((f7_lay (Z 0) Yv model (nI q) (ntOf model) N) 1) model N)), (0, .ref (a 0)), (1, .int kk), (2, .int model), (3, .int what), (7, .long w), (9, .int (nI q))]) hx hb dX7_plan_140 hl (by decide) rfl (fun ls hl => ?_)
                  refine lv_aload_n hx hb dX7_plan_142 rfl (lv_at hl 4 rfl) ?_
                  refine va_get (D := D) (ci := 7) (C := RX7) (T := TX7) (N := 23) hx hb hW inX7 hown hK hP 0 rfl rfl 17 (by decide) (hW _ (wa tw567 rfl)) (fun _ h9 => h9) rfl dX7_plan_143 ?_
                  refine lv_lstore (lv' := [(7, .long ((f7_lay (Z 0) Yv model (nI q) (ntOf model) N) 5 0)), (5, .long (f7_worstOf (Z 0) ((f7_lay (Z 0) Yv model (nI q) (ntOf model) N) 1) model N)), (4, .int (nI q)), (12, .long (((f7_worstOf (Z 0) ((f7_lay (Z 0) Yv model (nI q) (ntOf model) N) 1) model N) * w) - (u * ((f7_lay (Z 0) Yv model (nI q) (ntOf model) N) 5 0)))), (10, .long (f7_worstOf (Z 0) ((f7_lay (Z 0) Yv model (nI q) (ntOf model) N) 1) model N)), (0, .ref (a 0)), (1, .int kk), (2, .int model), (3, .int what), (9, .int (nI q))]) hx hb dX7_plan_146 hl (by decide) rfl (fun ls hl => ?_)
                  refine lv_iinc (v := nI q + 1) (lv' := [(9, .int (nI q + 1)), (7, .long ((f7_lay (Z 0) Yv model (nI q) (ntOf model) N) 5 0)), (5, .long (f7_worstOf (Z 0) ((f7_lay (Z 0) Yv model (nI q) (ntOf model) N) 1) model N)), (4, .int (nI q)), (12, .long (((f7_worstOf (Z 0) ((f7_lay (Z 0) Yv model (nI q) (ntOf model) N) 1) model N) * w) - (u * ((f7_lay (Z 0) Yv model (nI q) (ntOf model) N) 5 0)))), (10, .long (f7_worstOf (Z 0) ((f7_lay (Z 0) Yv model (nI q) (ntOf model) N) 1) model N)), (0, .ref (a 0)), (1, .int kk), (2, .int model), (3, .int what)]) hx hb dX7_plan_148 hl (k := 9) rfl rfl (by decide) rfl (fun ls hl => ?_)
                  refine lv_goto (tgt := 47) hx hb dX7_plan_151 (by decide) ?_
                  rw [nI_1] at hl
                  exact ih47 (q := q + 1) (b := (nI q)) (u := (f7_worstOf (Z 0) ((f7_lay (Z 0) Yv model (nI q) (ntOf model) N) 1) model N)) (w := ((f7_lay (Z 0) Yv model (nI q) (ntOf model) N) 5 0)) (Yv := (f7_lay (Z 0) Yv model (nI q) (ntOf model) N)) (ls := ls) (H := H) (locs := locs) ⟨by omega, by rw [← h47_1, plL]; simp only [if_pos c_8, if_neg c_9, if_pos c_10], c_9, lv_sub hl [6, 7, 8, 9, 3, 2, 1, 0] rfl, hP, hD, hS⟩
                · refine lv_lload hx hb dX7_plan_110 (lv_at hl 0 rfl) ?_
                  refine lv_lconst (v := 0) hx hb dX7_plan_112 (by decide) ?_
                  refine xlcmp_lt (tgt := 134) hx hb dX7_plan_113 dX7_plan_114 (by decide) (fun c_11 => ?_) (fun c_11 => ?_)
                  · refine lv_iload hx hb dX7_plan_134 (lv_at hl 9 rfl) ?_
                    refine lv_istore (lv' := [(4, .int (nI q)), (12, .long (((f7_worstOf (Z 0) ((f7_lay (Z 0) Yv model (nI q) (ntOf model) N) 1) model N) * w) - (u * ((f7_lay (Z 0) Yv model (nI q) (ntOf model) N) 5 0)))), (10, .long (f7_worstOf (Z 0) ((f7_lay (Z 0) Yv model (nI q) (ntOf model) N) 1) model N)), (0, .ref (a 0)), (1, .int kk), (2, .int model), (3, .int what), (5, .long u), (7, .long w), (9, .int (nI q))]) hx hb dX7_plan_136 hl (by decide) rfl (fun ls hl => ?_)
                    refine lv_lload hx hb dX7_plan_138 (lv_at hl 2 rfl) ?_
                    refine lv_lstore (lv' := [(5, .long (f7_worstOf (Z 0) ((f7_lay (Z 0) Yv model (nI q) (ntOf model) N) 1) model N)), (4, .int (nI q)), (12, .long (((f7_worstOf (Z 0) ((f7_lay (Z 0) Yv model (nI q) (ntOf model) N) 1) model N) * w) - (u * ((f7_lay (Z 0) Yv model (nI q) (ntOf model) N) 5 0)))), (10, .long (f7_worstOf (Z 0) ((f7_lay (Z 0) Yv model (nI q) (ntOf model) N) 1) model N)), (0, .ref (a 0)), (1, .int kk), (2, .int model), (3, .int what), (7, .long w), (9, .int (nI q))]) hx hb dX7_plan_140 hl (by decide) rfl (fun ls hl => ?_)
                    refine lv_aload_n hx hb dX7_plan_142 rfl (lv_at hl 4 rfl) ?_
                    refine va_get (D := D) (ci := 7) (C := RX7) (T := TX7) (N := 23) hx hb hW inX7 hown hK hP 0 rfl rfl 17 (by decide) (hW _ (wa tw567 rfl)) (fun _ h9 => h9) rfl dX7_plan_143 ?_
                    refine lv_lstore (lv' := [(7, .long ((f7_lay (Z 0) Yv model (nI q) (ntOf model) N) 5 0)), (5, .long (f7_worstOf (Z 0) ((f7_lay (Z 0) Yv model (nI q) (ntOf model) N) 1) model N)), (4, .int (nI q)), (12, .long (((f7_worstOf (Z 0) ((f7_lay (Z 0) Yv model (nI q) (ntOf model) N) 1) model N) * w) - (u * ((f7_lay (Z 0) Yv model (nI q) (ntOf model) N) 5 0)))), (10, .long (f7_worstOf (Z 0) ((f7_lay (Z 0) Yv model (nI q) (ntOf model) N) 1) model N)), (0, .ref (a 0)), (1, .int kk), (2, .int model), (3, .int what), (9, .int (nI q))]) hx hb dX7_plan_146 hl (by decide) rfl (fun ls hl => ?_)
                    refine lv_iinc (v := nI q + 1) (lv' := [(9, .int (nI q + 1)), (7, .long ((f7_lay (Z 0) Yv model (nI q) (ntOf model) N) 5 0)), (5, .long (f7_worstOf (Z 0) ((f7_lay (Z 0) Yv model (nI q) (ntOf model) N) 1) model N)), (4, .int (nI q)), (12, .long (((f7_worstOf (Z 0) ((f7_lay (Z 0) Yv model (nI q) (ntOf model) N) 1) model N) * w) - (u * ((f7_lay (Z 0) Yv model (nI q) (ntOf model) N) 5 0)))), (10, .long (f7_worstOf (Z 0) ((f7_lay (Z 0) Yv model (nI q) (ntOf model) N) 1) model N)), (0, .ref (a 0)), (1, .int kk), (2, .int model), (3, .int what)]) hx hb dX7_plan_148 hl (k := 9) rfl rfl (by decide) rfl (fun ls hl => ?_)
                    refine lv_goto (tgt := 47) hx hb dX7_plan_151 (by decide) ?_
                    rw [nI_1] at hl
                    exact ih47 (q := q + 1) (b := (nI q)) (u := (f7_worstOf (Z 0) ((f7_lay (Z 0) Yv model (nI q) (ntOf model) N) 1) model N)) (w := ((f7_lay (Z 0) Yv model (nI q) (ntOf model) N) 5 0)) (Yv := (f7_lay (Z 0) Yv model (nI q) (ntOf model) N)) (ls := ls) (H := H) (locs := locs) ⟨by omega, by rw [← h47_1, plL]; simp only [if_pos c_8, if_neg c_9, if_neg c_10, if_pos c_11], c_9, lv_sub hl [6, 7, 8, 9, 3, 2, 1, 0] rfl, hP, hD, hS⟩
                  · refine lv_lload hx hb dX7_plan_117 (lv_at hl 0 rfl) ?_
                    refine lv_lconst (v := 0) hx hb dX7_plan_119 (by decide) ?_
                    refine xlcmp_ne (tgt := 148) hx hb dX7_plan_120 dX7_plan_121 (by decide) (fun c_12 => ?_) (fun c_12 => ?_)
                    · refine lv_iinc (v := nI q + 1) (lv' := [(9, .int (nI q + 1)), (12, .long (((f7_worstOf (Z 0) ((f7_lay (Z 0) Yv model (nI q) (ntOf model) N) 1) model N) * w) - (u * ((f7_lay (Z 0) Yv model (nI q) (ntOf model) N) 5 0)))), (10, .long (f7_worstOf (Z 0) ((f7_lay (Z 0) Yv model (nI q) (ntOf model) N) 1) model N)), (0, .ref (a 0)), (1, .int kk), (2, .int model), (3, .int what), (4, .int b), (5, .long u), (7, .long w)]) hx hb dX7_plan_148 hl (k := 9) rfl rfl (by decide) rfl (fun ls hl => ?_)
                      refine lv_goto (tgt := 47) hx hb dX7_plan_151 (by decide) ?_
                      rw [nI_1] at hl
                      exact ih47 (q := q + 1) (b := b) (u := u) (w := w) (Yv := (f7_lay (Z 0) Yv model (nI q) (ntOf model) N)) (ls := ls) (H := H) (locs := locs) ⟨by omega, by rw [← h47_1, plL]; simp only [if_pos c_8, if_neg c_9, if_neg c_10, if_neg c_11, if_neg c_12], h47_2, lv_sub hl [3, 4, 5, 6, 7, 8, 9, 0] rfl, hP, hD, hS⟩
                    · refine lv_iload hx hb dX7_plan_124 (lv_at hl 9 rfl) ?_
                      refine lv_iload hx hb dX7_plan_126 (lv_at hl 6 rfl) ?_
                      refine xri (r := f7_isAhead (nI q) b) (rS (As := [.int (nI q), .int b]) (n := 2) (rest := []) ⟨hx, hb, hml, hown, hW⟩ (kX7_isAhead l (nI q) b) (wa tw745 rfl) (wa tw743 rfl) (wa tw744 rfl) (wa tw8 rfl) (by decide +kernel) ⟨Nat.le_of_ble_eq_true rfl, Nat.le_of_ble_eq_true rfl⟩ pS0 hl.1 rfl (Nat.le_of_ble_eq_true rfl) dX7_plan_128 ⟨Nat.le_of_ble_eq_true rfl, Nat.le_of_ble_eq_true rfl⟩ rfl rfl rfl) ?_
                      refine lv_if_eq (tgt := 148) hx hb dX7_plan_131 (by decide) (fun c_13 => ?_) (fun c_13 => ?_)
                      · refine lv_iinc (v := nI q + 1) (lv' := [(9, .int (nI q + 1)), (12, .long (((f7_worstOf (Z 0) ((f7_lay (Z 0) Yv model (nI q) (ntOf model) N) 1) model N) * w) - (u * ((f7_lay (Z 0) Yv model (nI q) (ntOf model) N) 5 0)))), (10, .long (f7_worstOf (Z 0) ((f7_lay (Z 0) Yv model (nI q) (ntOf model) N) 1) model N)), (0, .ref (a 0)), (1, .int kk), (2, .int model), (3, .int what), (4, .int b), (5, .long u), (7, .long w)]) hx hb dX7_plan_148 hl (k := 9) rfl rfl (by decide) rfl (fun ls hl => ?_)
                        refine lv_goto (tgt := 47) hx hb dX7_plan_151 (by decide) ?_
                        rw [nI_1] at hl
                        exact ih47 (q := q + 1) (b := b) (u := u) (w := w) (Yv := (f7_lay (Z 0) Yv model (nI q) (ntOf model) N)) (ls := ls) (H := H) (locs := locs) ⟨by omega, by rw [← h47_1, plL]; simp only [if_pos c_8, if_neg c_9, if_neg c_10, if_neg c_11, if_pos c_12, if_pos c_13], h47_2, lv_sub hl [3, 4, 5, 6, 7, 8, 9, 0] rfl, hP, hD, hS⟩
                      · refine lv_iload hx hb dX7_plan_134 (lv_at hl 9 rfl) ?_
                        refine lv_istore (lv' := [(4, .int (nI q)), (12, .long (((f7_worstOf (Z 0) ((f7_lay (Z 0) Yv model (nI q) (ntOf model) N) 1) model N) * w) - (u * ((f7_lay (Z 0) Yv model (nI q) (ntOf model) N) 5 0)))), (10, .long (f7_worstOf (Z 0) ((f7_lay (Z 0) Yv model (nI q) (ntOf model) N) 1) model N)), (0, .ref (a 0)), (1, .int kk), (2, .int model), (3, .int what), (5, .long u), (7, .long w), (9, .int (nI q))]) hx hb dX7_plan_136 hl (by decide) rfl (fun ls hl => ?_)
                        refine lv_lload hx hb dX7_plan_138 (lv_at hl 2 rfl) ?_
                        refine lv_lstore (lv' := [(5, .long (f7_worstOf (Z 0) ((f7_lay (Z 0) Yv model (nI q) (ntOf model) N) 1) model N)), (4, .int (nI q)), (12, .long (((f7_worstOf (Z 0) ((f7_lay (Z 0) Yv model (nI q) (ntOf model) N) 1) model N) * w) - (u * ((f7_lay (Z 0) Yv model (nI q) (ntOf model) N) 5 0)))), (10, .long (f7_worstOf (Z 0) ((f7_lay (Z 0) Yv model (nI q) (ntOf model) N) 1) model N)), (0, .ref (a 0)), (1, .int kk), (2, .int model), (3, .int what), (7, .long w), (9, .int (nI q))]) hx hb dX7_plan_140 hl (by decide) rfl (fun ls hl => ?_)
                        refine lv_aload_n hx hb dX7_plan_142 rfl (lv_at hl 4 rfl) ?_
                        refine va_get (D := D) (ci := 7) (C := RX7) (T := TX7) (N := 23) hx hb hW inX7 hown hK hP 0 rfl rfl 17 (by decide) (hW _ (wa tw567 rfl)) (fun _ h9 => h9) rfl dX7_plan_143 ?_
                        refine lv_lstore (lv' := [(7, .long ((f7_lay (Z 0) Yv model (nI q) (ntOf model) N) 5 0)), (5, .long (f7_worstOf (Z 0) ((f7_lay (Z 0) Yv model (nI q) (ntOf model) N) 1) model N)), (4, .int (nI q)), (12, .long (((f7_worstOf (Z 0) ((f7_lay (Z 0) Yv model (nI q) (ntOf model) N) 1) model N) * w) - (u * ((f7_lay (Z 0) Yv model (nI q) (ntOf model) N) 5 0)))), (10, .long (f7_worstOf (Z 0) ((f7_lay (Z 0) Yv model (nI q) (ntOf model) N) 1) model N)), (0, .ref (a 0)), (1, .int kk), (2, .int model), (3, .int what), (9, .int (nI q))]) hx hb dX7_plan_146 hl (by decide) rfl (fun ls hl => ?_)
                        refine lv_iinc (v := nI q + 1) (lv' := [(9, .int (nI q + 1)), (7, .long ((f7_lay (Z 0) Yv model (nI q) (ntOf model) N) 5 0)), (5, .long (f7_worstOf (Z 0) ((f7_lay (Z 0) Yv model (nI q) (ntOf model) N) 1) model N)), (4, .int (nI q)), (12, .long (((f7_worstOf (Z 0) ((f7_lay (Z 0) Yv model (nI q) (ntOf model) N) 1) model N) * w) - (u * ((f7_lay (Z 0) Yv model (nI q) (ntOf model) N) 5 0)))), (10, .long (f7_worstOf (Z 0) ((f7_lay (Z 0) Yv model (nI q) (ntOf model) N) 1) model N)), (0, .ref (a 0)), (1, .int kk), (2, .int model), (3, .int what)]) hx hb dX7_plan_148 hl (k := 9) rfl rfl (by decide) rfl (fun ls hl => ?_)
                        refine lv_goto (tgt := 47) hx hb dX7_plan_151 (by decide) ?_
                        rw [nI_1] at hl
                        exact ih47 (q := q + 1) (b := (nI q)) (u := (f7_worstOf (Z 0) ((f7_lay (Z 0) Yv model (nI q) (ntOf model) N) 1) model N)) (w := ((f7_lay (Z 0) Yv model (nI q) (ntOf model) N) 5 0)) (Yv := (f7_lay (Z 0) Yv model (nI q) (ntOf model) N)) (ls := ls) (H := H) (locs := locs) ⟨by omega, by rw [← h47_1, plL]; simp only [if_pos c_8, if_neg c_9, if_neg c_10, if_neg c_11, if_pos c_12, if_neg c_13], c_9, lv_sub hl [6, 7, 8, 9, 3, 2, 1, 0] rfl, hP, hD, hS⟩
      · refine lv_ldc2 hx hb hown (hW _ (wa tw680 rfl)) dX7_plan_31 ?_
        have hb_0 : (f7_plan_Y Z Y N kk model what) = Y := (by simp only [f7_plan, f7_plan_Y, if_neg c_1, if_neg c_2, if_pos c_3])
        have hP9 : va_P D vwCl ((wZ a C Z (f7_plan_Y Z Y N kk model what))) s.heap := by rw [hb_0]; exact hP
        have hD9 : va_D A ((wZ a C Z (f7_plan_Y Z Y N kk model what))) := by rw [hb_0]; exact hD
        exact W.lret (v := (-100002)) hx hb hr (fun t ht _ => ⟨⟨_, (), rfl, (by simp only [f7_plan, f7_plan_Y, if_neg c_1, if_neg c_2, if_pos c_3]), ⟨by rw [ht]; exact hP9, by rw [hAe]; exact hD9⟩⟩, hS.F ht⟩) hS.2.2 dX7_plan_34
