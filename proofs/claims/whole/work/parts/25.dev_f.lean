theorem q_16o {x : Int32} (h : f6_outside x 1 6 = 0) : ∃ k : Nat, (1 ≤ k ∧ k ≤ 6) ∧ x = nI k := by
  rw [q_out] at h
  have h1 : (1 : Int32).toInt = 1 := rfl
  have h6 : (6 : Int32).toInt = 6 := rfl
  rw [h1, h6] at h
  obtain ⟨k, hk, e⟩ := q_nat (x := x) (n := 7) (by omega) (by omega) (by decide)
  subst e
  rw [nI_toInt (by omega)] at h
  exact ⟨k, ⟨by omega, by omega⟩, rfl⟩
theorem q_layo {x : Int32} {n : Nat} (h1 : 1 ≤ n) (h6 : n ≤ 6) (h : f6_outside x (-1) (nI n - 1) = 0) (hx : ¬ x = -1) : ∃ k : Nat, k < n ∧ x = nI k := by
  rw [q_out, q_pred (by omega)] at h
  have hm : (-1 : Int32).toInt = -1 := rfl
  rw [hm] at h
  rcases Int.lt_or_le x.toInt 0 with q | q
  · exact absurd (Int32.toInt_inj.mp (by rw [show x.toInt = -1 by omega]; rfl)) hx
  · exact q_nat q (by omega) (by omega)

def f6_plan (M : Nat → Nat → Int32) (Pt : Nat → Nat → Int64) (pi : Nat → Int32) (N : Nat) (kk model what : Int32) : Int64 := (if (f6_outside kk 1 6) = 0 then (if (f6_outside model 0 2) = 0 then (if (f6_outside what 0 2) = 0 then (if (f3_ok (f3_make M N (ix kk) model Pt pi).2) = 0 then ((-100003)) else (if what = 0 then ((((f3_make M N (ix kk) model Pt pi).2) 1).toInt64) else (f6_partOf (((f3_make M N (ix kk) model Pt pi).1) 1 0) (((f3_make M N (ix kk) model Pt pi).1) 1 1) (what - 1)))) else ((-100002))) else ((-100002))) else ((-100002)))
def f6_plan_Pt (M : Nat → Nat → Int32) (Pt : Nat → Nat → Int64) (pi : Nat → Int32) (N : Nat) (kk model what : Int32) : Nat → Nat → Int64 := (if (f6_outside kk 1 6) = 0 then (if (f6_outside model 0 2) = 0 then (if (f6_outside what 0 2) = 0 then ((f3_make M N (ix kk) model Pt pi).1) else (Pt)) else (Pt)) else (Pt))
def f6_plan_pi (M : Nat → Nat → Int32) (Pt : Nat → Nat → Int64) (pi : Nat → Int32) (N : Nat) (kk model what : Int32) : Nat → Int32 := (if (f6_outside kk 1 6) = 0 then (if (f6_outside model 0 2) = 0 then (if (f6_outside what 0 2) = 0 then ((f3_make M N (ix kk) model Pt pi).2) else (pi)) else (pi)) else (pi))
set_option maxHeartbeats 4000000 in
set_option maxRecDepth 100000 in
theorem kX6_plan (l : Launch) (D : va_G) (C : Nat → ClassId) (ax am af ap ab ar : Nat → Nat) (Pt : Nat → Nat → Int64) (pi : Nat → Int32) (M : Nat → Nat → Int32) (kk model what : Int32) (sz : Nat) (N : Nat) (hN : M 6 0 = nI N) (hN12 : N ≤ 12) : Wl l D C yX6_plan cX6_plan 4 17 [.ref (ax 0), .int kk, .int model, .int what] ((wX ax am af ap ab ar) ++ (wP ap C Pt pi) ++ (wM am C M)) (((wX ax am af ap ab ar) ++ (wP ap C (f6_plan_Pt M Pt pi N kk model what) (f6_plan_pi M Pt pi N kk model what)) ++ (wM am C M))) (f6_plan M Pt pi N kk model what) sz := by
  refine Met.ofW (cc := cX6_plan) (maxL := 4) (ret := (some .long)) (by decide) rfl ?_
  intro p e s m args below meth c s₁ B hml hv
  obtain ⟨rfl, hsz, hP, hK, hNw, hD0⟩ := hv
  have hx := B.exec
  have hb := B.bytes
  have hr := B.returns
  have hts := atoms_spec (ws := wm yX6_plan cX6_plan 4 (some .long)) B.pre
  have hown : s.vm.findClass RX6 = some m.cls := findClass_of_methodNamed B.named
  have hlocks := B.notSynchronized
  have hW : ∀ w ∈ WA, w.before _ s = true := fun w h => hts w (List.mem_cons_of_mem _ h)
  subst hsz
  have hD := hD0.self (sz := s.heap.size)
  generalize hAe : va_A ((wX ax am af ap ab ar) ++ (wP ap C Pt pi) ++ (wM am C M)) s.heap.size = A at hD ⊢
  have hA : ∀ q : Nat, s.heap.size ≤ q → A q := fun q h => by rw [← hAe]; exact Or.inr h
  have hS : va_S A s.heap s.heap [] := va_S.rf
  have hP : va_P D vwCl [((ax 0), .inr (6, [.ref (am 0), .ref (af 0), .ref (ap 0), .ref (ab 0), .ref (ar 0)])), ((ap 0), .inr (3, [.ref (ap 1), .int (pi 0), .int (pi 1), .long (Pt 1 0), .long (Pt 1 1)])), ((ap 1), .inr (5, [.long (Pt 0 0), .long (Pt 0 1), .long (Pt 0 2), .long (Pt 0 3), .long (Pt 0 4), .long (Pt 0 5), .long (Pt 0 6), .long (Pt 0 7), .long (Pt 0 8), .long (Pt 0 9), .long (Pt 0 10), .long (Pt 0 11), .long (Pt 0 12)])), ((am 0), .inr (2, [.ref (am 1), .ref (am 2), .ref (am 3), .ref (am 4), .ref (am 5), .int (M 6 0), .int (M 6 1), .int (M 6 2)])), ((am 1), eI C 12 (M 0)), ((am 2), eI C 12 (M 1)), ((am 3), eI C 12 (M 2)), ((am 4), eI C 12 (M 3)), ((am 5), eII C 2 (rr am 6 2)), ((am 6), eI C 12 (M 4)), ((am 7), eI C 12 (M 5))] s.heap := hP
  have hD : va_D A [((ax 0), .inr (6, [.ref (am 0), .ref (af 0), .ref (ap 0), .ref (ab 0), .ref (ar 0)])), ((ap 0), .inr (3, [.ref (ap 1), .int (pi 0), .int (pi 1), .long (Pt 1 0), .long (Pt 1 1)])), ((ap 1), .inr (5, [.long (Pt 0 0), .long (Pt 0 1), .long (Pt 0 2), .long (Pt 0 3), .long (Pt 0 4), .long (Pt 0 5), .long (Pt 0 6), .long (Pt 0 7), .long (Pt 0 8), .long (Pt 0 9), .long (Pt 0 10), .long (Pt 0 11), .long (Pt 0 12)])), ((am 0), .inr (2, [.ref (am 1), .ref (am 2), .ref (am 3), .ref (am 4), .ref (am 5), .int (M 6 0), .int (M 6 1), .int (M 6 2)])), ((am 1), eI C 12 (M 0)), ((am 2), eI C 12 (M 1)), ((am 3), eI C 12 (M 2)), ((am 4), eI C 12 (M 3)), ((am 5), eII C 2 (rr am 6 2)), ((am 6), eI C 12 (M 4)), ((am 7), eI C 12 (M 5))] := hD
  have hl := lv_entry ([.ref (ax 0), .int kk, .int model, .int what]) (n := 4) (Nat.le_of_ble_eq_true rfl)
  rw [lg_entry_eq]
  generalize (lg_sl ([.ref (ax 0), .int kk, .int model, .int what]) ++ List.replicate (4 - (lg_sl ([.ref (ax 0), .int kk, .int model, .int what])).length) Slot.unset).toArray = ls at hl ⊢
  have hl : lv_has ls 4 [(0, .ref (ax 0)), (1, .int kk), (2, .int model), (3, .int what)] := hl
  refine lv_iload_n hx hb dX6_plan_0 rfl (lv_at hl 1 rfl) ?_
  refine lv_iconst (v := 1) hx hb dX6_plan_1 (by decide) ?_
  refine lv_bipush (v := 6) hx hb dX6_plan_2 (by decide) ?_
  refine xri (r := f6_outside kk 1 6) (rS (As := [.int kk, .int 1, .int 6]) (n := 3) (rest := []) ⟨hx, hb, hml, hown, hW⟩ (kX6_outside l kk 1 6) (wa tw259 rfl) (wa tw257 rfl) (wa tw258 rfl) (wa tw1 rfl) (by decide +kernel) ⟨Nat.le_of_ble_eq_true rfl, Nat.le_of_ble_eq_true rfl⟩ pS0 hl.1 rfl (Nat.le_of_ble_eq_true rfl) dX6_plan_4 ⟨Nat.le_of_ble_eq_true rfl, Nat.le_of_ble_eq_true rfl⟩ rfl rfl rfl) ?_
  refine lv_if_ne (tgt := 28) hx hb dX6_plan_7 (by decide) (fun c_1 => ?_) (fun c_1 => ?_)
  · refine lv_ldc2 hx hb hown (hW _ (wa tw330 rfl)) dX6_plan_28 ?_
    have hb_0 : (f6_plan_Pt M Pt pi N kk model what) = Pt := (by simp only [f6_plan, f6_plan_Pt, f6_plan_pi, if_neg c_1])
    have hb_1 : (f6_plan_pi M Pt pi N kk model what) = pi := (by simp only [f6_plan, f6_plan_Pt, f6_plan_pi, if_neg c_1])
    have hP9 : va_P D vwCl (((wX ax am af ap ab ar) ++ (wP ap C (f6_plan_Pt M Pt pi N kk model what) (f6_plan_pi M Pt pi N kk model what)) ++ (wM am C M))) s.heap := by rw [hb_0, hb_1]; exact hP
    have hD9 : va_D A (((wX ax am af ap ab ar) ++ (wP ap C (f6_plan_Pt M Pt pi N kk model what) (f6_plan_pi M Pt pi N kk model what)) ++ (wM am C M))) := by rw [hb_0, hb_1]; exact hD
    exact W.lret (v := (-100002)) hx hb hr (fun t ht _ => ⟨⟨_, (), rfl, (by simp only [f6_plan, f6_plan_Pt, f6_plan_pi, if_neg c_1]), ⟨by rw [ht]; exact hP9, by rw [hAe]; exact hD9⟩⟩, hS.F ht⟩) hS.2.2 dX6_plan_31
  · refine lv_iload_n hx hb dX6_plan_10 rfl (lv_at hl 2 rfl) ?_
    refine lv_iconst (v := 0) hx hb dX6_plan_11 (by decide) ?_
    refine lv_iconst (v := 2) hx hb dX6_plan_12 (by decide) ?_
    refine xri (r := f6_outside model 0 2) (rS (As := [.int model, .int 0, .int 2]) (n := 3) (rest := []) ⟨hx, hb, hml, hown, hW⟩ (kX6_outside l model 0 2) (wa tw259 rfl) (wa tw257 rfl) (wa tw258 rfl) (wa tw1 rfl) (by decide +kernel) ⟨Nat.le_of_ble_eq_true rfl, Nat.le_of_ble_eq_true rfl⟩ pS0 hl.1 rfl (Nat.le_of_ble_eq_true rfl) dX6_plan_13 ⟨Nat.le_of_ble_eq_true rfl, Nat.le_of_ble_eq_true rfl⟩ rfl rfl rfl) ?_
    refine lv_if_ne (tgt := 28) hx hb dX6_plan_16 (by decide) (fun c_2 => ?_) (fun c_2 => ?_)
    · refine lv_ldc2 hx hb hown (hW _ (wa tw330 rfl)) dX6_plan_28 ?_
      have hb_0 : (f6_plan_Pt M Pt pi N kk model what) = Pt := (by simp only [f6_plan, f6_plan_Pt, f6_plan_pi, if_pos c_1, if_neg c_2])
      have hb_1 : (f6_plan_pi M Pt pi N kk model what) = pi := (by simp only [f6_plan, f6_plan_Pt, f6_plan_pi, if_pos c_1, if_neg c_2])
      have hP9 : va_P D vwCl (((wX ax am af ap ab ar) ++ (wP ap C (f6_plan_Pt M Pt pi N kk model what) (f6_plan_pi M Pt pi N kk model what)) ++ (wM am C M))) s.heap := by rw [hb_0, hb_1]; exact hP
      have hD9 : va_D A (((wX ax am af ap ab ar) ++ (wP ap C (f6_plan_Pt M Pt pi N kk model what) (f6_plan_pi M Pt pi N kk model what)) ++ (wM am C M))) := by rw [hb_0, hb_1]; exact hD
      exact W.lret (v := (-100002)) hx hb hr (fun t ht _ => ⟨⟨_, (), rfl, (by simp only [f6_plan, f6_plan_Pt, f6_plan_pi, if_pos c_1, if_neg c_2]), ⟨by rw [ht]; exact hP9, by rw [hAe]; exact hD9⟩⟩, hS.F ht⟩) hS.2.2 dX6_plan_31
    · refine lv_iload_n hx hb dX6_plan_19 rfl (lv_at hl 3 rfl) ?_
      refine lv_iconst (v := 0) hx hb dX6_plan_20 (by decide) ?_
      refine lv_iconst (v := 2) hx hb dX6_plan_21 (by decide) ?_
      refine xri (r := f6_outside what 0 2) (rS (As := [.int what, .int 0, .int 2]) (n := 3) (rest := []) ⟨hx, hb, hml, hown, hW⟩ (kX6_outside l what 0 2) (wa tw259 rfl) (wa tw257 rfl) (wa tw258 rfl) (wa tw1 rfl) (by decide +kernel) ⟨Nat.le_of_ble_eq_true rfl, Nat.le_of_ble_eq_true rfl⟩ pS0 hl.1 rfl (Nat.le_of_ble_eq_true rfl) dX6_plan_22 ⟨Nat.le_of_ble_eq_true rfl, Nat.le_of_ble_eq_true rfl⟩ rfl rfl rfl) ?_
      refine lv_if_eq (tgt := 32) hx hb dX6_plan_25 (by decide) (fun c_3 => ?_) (fun c_3 => ?_)
      · obtain ⟨q, hq, rfl⟩ := q_16o c_1
        have hix_q : ix (nI q) = q := ix_nI (by omega)
        refine lv_aload_n hx hb dX6_plan_32 rfl (lv_at hl 0 rfl) ?_
        refine va_get (D := D) (ci := 6) (C := RX6) (T := TX6) (N := 5) hx hb hW inX6 hown hK hP 0 rfl rfl 2 (by decide) (hW _ (wa tw239 rfl)) (fun _ h9 => h9) rfl dX6_plan_33 ?_
        refine lv_aload_n hx hb dX6_plan_36 rfl (lv_at hl 0 rfl) ?_
        refine va_get (D := D) (ci := 6) (C := RX6) (T := TX6) (N := 5) hx hb hW inX6 hown hK hP 0 rfl rfl 0 (by decide) (hW _ (wa tw237 rfl)) (fun _ h9 => h9) rfl dX6_plan_37 ?_
        refine lv_iload_n hx hb dX6_plan_40 rfl (lv_at hl 1 rfl) ?_
        refine lv_iload_n hx hb dX6_plan_41 rfl (lv_at hl 2 rfl) ?_
        refine xwi (wr := [((ax 0), .inr (6, [.ref (am 0), .ref (af 0), .ref (ap 0), .ref (ab 0), .ref (ar 0)]))]) (rVN (As := [.ref (am 0), .int (nI q), .int model]) (n := 3) (rest := []) ⟨hx, hb, hml, hown, hW⟩ (kX3_make l D C ap Pt pi am M q model s.heap.size N hN hN12 (by omega)) (wa tw437 rfl) (hNw _ tw434 rfl) (wa tw436 rfl) (was ts23 rfl) (wa tw5 rfl) (by decide +kernel) ⟨Nat.le_of_ble_eq_true rfl, Nat.le_of_ble_eq_true rfl⟩ (pVw (hP.sub [1, 2, 3, 4, 5, 6, 7, 8, 9, 10] rfl) (hD.sub [1, 2, 3, 4, 5, 6, 7, 8, 9, 10] (by decide) rfl) hK hNw 0 rfl rfl) hl.1 rfl (Nat.le_of_ble_eq_true rfl) dX6_plan_42 ⟨Nat.le_of_ble_eq_true rfl, Nat.le_of_ble_eq_true rfl⟩ rfl rfl rfl) hP hD hS hA [1, 2, 3, 4, 5, 6, 7, 8, 9, 10] [0] rfl rfl (by decide) (by decide) (fun H locs hP hD hS => ?_)
        have hP : va_P D vwCl [((ax 0), .inr (6, [.ref (am 0), .ref (af 0), .ref (ap 0), .ref (ab 0), .ref (ar 0)])), ((ap 0), .inr (3, [.ref (ap 1), .int (((f3_make M N q model Pt pi).2) 0), .int (((f3_make M N q model Pt pi).2) 1), .long (((f3_make M N q model Pt pi).1) 1 0), .long (((f3_make M N q model Pt pi).1) 1 1)])), ((ap 1), .inr (5, [.long (((f3_make M N q model Pt pi).1) 0 0), .long (((f3_make M N q model Pt pi).1) 0 1), .long (((f3_make M N q model Pt pi).1) 0 2), .long (((f3_make M N q model Pt pi).1) 0 3), .long (((f3_make M N q model Pt pi).1) 0 4), .long (((f3_make M N q model Pt pi).1) 0 5), .long (((f3_make M N q model Pt pi).1) 0 6), .long (((f3_make M N q model Pt pi).1) 0 7), .long (((f3_make M N q model Pt pi).1) 0 8), .long (((f3_make M N q model Pt pi).1) 0 9), .long (((f3_make M N q model Pt pi).1) 0 10), .long (((f3_make M N q model Pt pi).1) 0 11), .long (((f3_make M N q model Pt pi).1) 0 12)])), ((am 0), .inr (2, [.ref (am 1), .ref (am 2), .ref (am 3), .ref (am 4), .ref (am 5), .int (M 6 0), .int (M 6 1), .int (M 6 2)])), ((am 1), eI C 12 (M 0)), ((am 2), eI C 12 (M 1)), ((am 3), eI C 12 (M 2)), ((am 4), eI C 12 (M 3)), ((am 5), eII C 2 (rr am 6 2)), ((am 6), eI C 12 (M 4)), ((am 7), eI C 12 (M 5))] H := hP
        have hD : va_D A [((ax 0), .inr (6, [.ref (am 0), .ref (af 0), .ref (ap 0), .ref (ab 0), .ref (ar 0)])), ((ap 0), .inr (3, [.ref (ap 1), .int (((f3_make M N q model Pt pi).2) 0), .int (((f3_make M N q model Pt pi).2) 1), .long (((f3_make M N q model Pt pi).1) 1 0), .long (((f3_make M N q model Pt pi).1) 1 1)])), ((ap 1), .inr (5, [.long (((f3_make M N q model Pt pi).1) 0 0), .long (((f3_make M N q model Pt pi).1) 0 1), .long (((f3_make M N q model Pt pi).1) 0 2), .long (((f3_make M N q model Pt pi).1) 0 3), .long (((f3_make M N q model Pt pi).1) 0 4), .long (((f3_make M N q model Pt pi).1) 0 5), .long (((f3_make M N q model Pt pi).1) 0 6), .long (((f3_make M N q model Pt pi).1) 0 7), .long (((f3_make M N q model Pt pi).1) 0 8), .long (((f3_make M N q model Pt pi).1) 0 9), .long (((f3_make M N q model Pt pi).1) 0 10), .long (((f3_make M N q model Pt pi).1) 0 11), .long (((f3_make M N q model Pt pi).1) 0 12)])), ((am 0), .inr (2, [.ref (am 1), .ref (am 2), .ref (am 3), .ref (am 4), .ref (am 5), .int (M 6 0), .int (M 6 1), .int (M 6 2)])), ((am 1), eI C 12 (M 0)), ((am 2), eI C 12 (M 1)), ((am 3), eI C 12 (M 2)), ((am 4), eI C 12 (M 3)), ((am 5), eII C 2 (rr am 6 2)), ((am 6), eI C 12 (M 4)), ((am 7), eI C 12 (M 5))] := hD
        refine lv_if_ne (tgt := 52) hx hb dX6_plan_45 (by decide) (fun c_4 => ?_) (fun c_4 => ?_)
        · refine lv_iload_n hx hb dX6_plan_52 rfl (lv_at hl 3 rfl) ?_
          refine lv_if_ne (tgt := 67) hx hb dX6_plan_53 (by decide) (fun c_5 => ?_) (fun c_5 => ?_)
          · refine lv_aload_n hx hb dX6_plan_67 rfl (lv_at hl 0 rfl) ?_
            refine va_get (D := D) (ci := 6) (C := RX6) (T := TX6) (N := 5) hx hb hW inX6 hown hK hP 0 rfl rfl 2 (by decide) (hW _ (wa tw239 rfl)) (fun _ h9 => h9) rfl dX6_plan_68 ?_
            refine va_getN (D := D) (host := "FieldAfterField") (ci := 3) (C := RX3) (T := TX3) (N := 5) hx hb hW inX3 hown hK hP 1 rfl rfl 3 (by decide) (va_Nw.use rfl (hNw _ tw157 rfl)) (fun _ h9 => h9) rfl dX6_plan_71 ?_
            refine lv_aload_n hx hb dX6_plan_74 rfl (lv_at hl 0 rfl) ?_
            refine va_get (D := D) (ci := 6) (C := RX6) (T := TX6) (N := 5) hx hb hW inX6 hown hK hP 0 rfl rfl 2 (by decide) (hW _ (wa tw239 rfl)) (fun _ h9 => h9) rfl dX6_plan_75 ?_
            refine va_getN (D := D) (host := "FieldAfterField") (ci := 3) (C := RX3) (T := TX3) (N := 5) hx hb hW inX3 hown hK hP 1 rfl rfl 4 (by decide) (va_Nw.use rfl (hNw _ tw159 rfl)) (fun _ h9 => h9) rfl dX6_plan_78 ?_
            refine lv_iload_n hx hb dX6_plan_81 rfl (lv_at hl 3 rfl) ?_
            refine lv_iconst (v := 1) hx hb dX6_plan_82 (by decide) ?_
            refine lv_isub hx hb dX6_plan_83 ?_
            refine xrl (r := f6_partOf (((f3_make M N q model Pt pi).1) 1 0) (((f3_make M N q model Pt pi).1) 1 1) (what - 1)) (rS (As := [.long (((f3_make M N q model Pt pi).1) 1 0), .long (((f3_make M N q model Pt pi).1) 1 1), .int (what - 1)]) (n := 3) (rest := []) ⟨hx, hb, hml, hown, hW⟩ (kX6_partOf l (((f3_make M N q model Pt pi).1) 1 0) (((f3_make M N q model Pt pi).1) 1 1) (what - 1)) (wa tw377 rfl) (wa tw375 rfl) (wa tw376 rfl) (wa tw1 rfl) (by decide +kernel) ⟨Nat.le_of_ble_eq_true rfl, Nat.le_of_ble_eq_true rfl⟩ pS0 hl.1 rfl (Nat.le_of_ble_eq_true rfl) dX6_plan_84 ⟨Nat.le_of_ble_eq_true rfl, Nat.le_of_ble_eq_true rfl⟩ rfl rfl rfl) ?_
            have hb_0 : (f6_plan_Pt M Pt pi N (nI q) model what) = (f3_make M N q model Pt pi).1 := (by simp only [f6_plan, f6_plan_Pt, f6_plan_pi, if_pos c_1, if_pos c_2, if_pos c_3, if_neg c_4, if_neg c_5, hix_q])
            have hb_1 : (f6_plan_pi M Pt pi N (nI q) model what) = (f3_make M N q model Pt pi).2 := (by simp only [f6_plan, f6_plan_Pt, f6_plan_pi, if_pos c_1, if_pos c_2, if_pos c_3, if_neg c_4, if_neg c_5, hix_q])
            have hP9 : va_P D vwCl (((wX ax am af ap ab ar) ++ (wP ap C (f6_plan_Pt M Pt pi N (nI q) model what) (f6_plan_pi M Pt pi N (nI q) model what)) ++ (wM am C M))) H := by rw [hb_0, hb_1]; exact hP
            have hD9 : va_D A (((wX ax am af ap ab ar) ++ (wP ap C (f6_plan_Pt M Pt pi N (nI q) model what) (f6_plan_pi M Pt pi N (nI q) model what)) ++ (wM am C M))) := by rw [hb_0, hb_1]; exact hD
            exact W.lret (v := f6_partOf (((f3_make M N q model Pt pi).1) 1 0) (((f3_make M N q model Pt pi).1) 1 1) (what - 1)) hx hb hr (fun t ht _ => ⟨⟨_, (), rfl, (by simp only [f6_plan, f6_plan_Pt, f6_plan_pi, if_pos c_1, if_pos c_2, if_pos c_3, if_neg c_4, if_neg c_5, hix_q]), ⟨by rw [ht]; exact hP9, by rw [hAe]; exact hD9⟩⟩, hS.F ht⟩) hS.2.2 dX6_plan_87
          · refine lv_aload_n hx hb dX6_plan_56 rfl (lv_at hl 0 rfl) ?_
            refine va_get (D := D) (ci := 6) (C := RX6) (T := TX6) (N := 5) hx hb hW inX6 hown hK hP 0 rfl rfl 2 (by decide) (hW _ (wa tw239 rfl)) (fun _ h9 => h9) rfl dX6_plan_57 ?_
            refine va_getN (D := D) (host := "FieldAfterField") (ci := 3) (C := RX3) (T := TX3) (N := 5) hx hb hW inX3 hown hK hP 1 rfl rfl 2 (by decide) (va_Nw.use rfl (hNw _ tw155 rfl)) (fun _ h9 => h9) rfl dX6_plan_60 ?_
            refine lv_i2l (v := (((f3_make M N q model Pt pi).2) 1).toInt64) hx hb dX6_plan_63 rfl ?_
            refine lv_goto (tgt := 87) hx hb dX6_plan_64 (by decide) ?_
            have hb_0 : (f6_plan_Pt M Pt pi N (nI q) model what) = (f3_make M N q model Pt pi).1 := (by simp only [f6_plan, f6_plan_Pt, f6_plan_pi, if_pos c_1, if_pos c_2, if_pos c_3, if_neg c_4, if_pos c_5, hix_q])
            have hb_1 : (f6_plan_pi M Pt pi N (nI q) model what) = (f3_make M N q model Pt pi).2 := (by simp only [f6_plan, f6_plan_Pt, f6_plan_pi, if_pos c_1, if_pos c_2, if_pos c_3, if_neg c_4, if_pos c_5, hix_q])
            have hP9 : va_P D vwCl (((wX ax am af ap ab ar) ++ (wP ap C (f6_plan_Pt M Pt pi N (nI q) model what) (f6_plan_pi M Pt pi N (nI q) model what)) ++ (wM am C M))) H := by rw [hb_0, hb_1]; exact hP
            have hD9 : va_D A (((wX ax am af ap ab ar) ++ (wP ap C (f6_plan_Pt M Pt pi N (nI q) model what) (f6_plan_pi M Pt pi N (nI q) model what)) ++ (wM am C M))) := by rw [hb_0, hb_1]; exact hD
            exact W.lret (v := (((f3_make M N q model Pt pi).2) 1).toInt64) hx hb hr (fun t ht _ => ⟨⟨_, (), rfl, (by simp only [f6_plan, f6_plan_Pt, f6_plan_pi, if_pos c_1, if_pos c_2, if_pos c_3, if_neg c_4, if_pos c_5, hix_q]), ⟨by rw [ht]; exact hP9, by rw [hAe]; exact hD9⟩⟩, hS.F ht⟩) hS.2.2 dX6_plan_87
        · refine lv_ldc2 hx hb hown (hW _ (wa tw374 rfl)) dX6_plan_48 ?_
          have hb_0 : (f6_plan_Pt M Pt pi N (nI q) model what) = (f3_make M N q model Pt pi).1 := (by simp only [f6_plan, f6_plan_Pt, f6_plan_pi, if_pos c_1, if_pos c_2, if_pos c_3, if_pos c_4, hix_q])
          have hb_1 : (f6_plan_pi M Pt pi N (nI q) model what) = (f3_make M N q model Pt pi).2 := (by simp only [f6_plan, f6_plan_Pt, f6_plan_pi, if_pos c_1, if_pos c_2, if_pos c_3, if_pos c_4, hix_q])
          have hP9 : va_P D vwCl (((wX ax am af ap ab ar) ++ (wP ap C (f6_plan_Pt M Pt pi N (nI q) model what) (f6_plan_pi M Pt pi N (nI q) model what)) ++ (wM am C M))) H := by rw [hb_0, hb_1]; exact hP
          have hD9 : va_D A (((wX ax am af ap ab ar) ++ (wP ap C (f6_plan_Pt M Pt pi N (nI q) model what) (f6_plan_pi M Pt pi N (nI q) model what)) ++ (wM am C M))) := by rw [hb_0, hb_1]; exact hD
          exact W.lret (v := (-100003)) hx hb hr (fun t ht _ => ⟨⟨_, (), rfl, (by simp only [f6_plan, f6_plan_Pt, f6_plan_pi, if_pos c_1, if_pos c_2, if_pos c_3, if_pos c_4, hix_q]), ⟨by rw [ht]; exact hP9, by rw [hAe]; exact hD9⟩⟩, hS.F ht⟩) hS.2.2 dX6_plan_51
      · refine lv_ldc2 hx hb hown (hW _ (wa tw330 rfl)) dX6_plan_28 ?_
        have hb_0 : (f6_plan_Pt M Pt pi N kk model what) = Pt := (by simp only [f6_plan, f6_plan_Pt, f6_plan_pi, if_pos c_1, if_pos c_2, if_neg c_3])
        have hb_1 : (f6_plan_pi M Pt pi N kk model what) = pi := (by simp only [f6_plan, f6_plan_Pt, f6_plan_pi, if_pos c_1, if_pos c_2, if_neg c_3])
        have hP9 : va_P D vwCl (((wX ax am af ap ab ar) ++ (wP ap C (f6_plan_Pt M Pt pi N kk model what) (f6_plan_pi M Pt pi N kk model what)) ++ (wM am C M))) s.heap := by rw [hb_0, hb_1]; exact hP
        have hD9 : va_D A (((wX ax am af ap ab ar) ++ (wP ap C (f6_plan_Pt M Pt pi N kk model what) (f6_plan_pi M Pt pi N kk model what)) ++ (wM am C M))) := by rw [hb_0, hb_1]; exact hD
        exact W.lret (v := (-100002)) hx hb hr (fun t ht _ => ⟨⟨_, (), rfl, (by simp only [f6_plan, f6_plan_Pt, f6_plan_pi, if_pos c_1, if_pos c_2, if_neg c_3]), ⟨by rw [ht]; exact hP9, by rw [hAe]; exact hD9⟩⟩, hS.F ht⟩) hS.2.2 dX6_plan_31

def f6_route (Rt : Nat → Nat → Int32) (nn layer : Int32) : Int32 := (if (f6_outside nn 1 6) = 0 then (if (f6_outside layer (-1) (nn - 1)) = 0 then (if (f4_ok (f4_make (ix nn) Rt)) = 0 then ((-100003)) else (if layer = (-1) then ((f4_make (ix nn) Rt) 7 2) else (((f4_make (ix nn) Rt) 5) (ix layer)))) else ((-100002))) else ((-100002)))
def f6_route_Rt (Rt : Nat → Nat → Int32) (nn layer : Int32) : Nat → Nat → Int32 := (if (f6_outside nn 1 6) = 0 then (if (f6_outside layer (-1) (nn - 1)) = 0 then (f4_make (ix nn) Rt) else (Rt)) else (Rt))
set_option maxHeartbeats 4000000 in
set_option maxRecDepth 100000 in
theorem kX6_route (l : Launch) (D : va_G) (C : Nat → ClassId) (ax am af ap ab ar : Nat → Nat) (Rt : Nat → Nat → Int32) (nn layer : Int32) (sz : Nat) (hT : rtok Rt) : Wi l D C yX6_route cX6_route 3 .int 16 [.ref (ax 0), .int nn, .int layer] ((wX ax am af ap ab ar) ++ (wR ar C Rt)) (((wX ax am af ap ab ar) ++ (wR ar C (f6_route_Rt Rt nn layer)))) (f6_route Rt nn layer) sz := by
  refine Met.ofW (cc := cX6_route) (maxL := 3) (ret := (some .int)) (by decide) rfl ?_
  intro p e s m args below meth c s₁ B hml hv
  obtain ⟨rfl, hsz, hP, hK, hNw, hD0⟩ := hv
  have hx := B.exec
  have hb := B.bytes
  have hr := B.returns
  have hts := atoms_spec (ws := wm yX6_route cX6_route 3 (some .int)) B.pre
  have hown : s.vm.findClass RX6 = some m.cls := findClass_of_methodNamed B.named
  have hlocks := B.notSynchronized
  have hW : ∀ w ∈ WA, w.before _ s = true := fun w h => hts w (List.mem_cons_of_mem _ h)
  subst hsz
  have hD := hD0.self (sz := s.heap.size)
  generalize hAe : va_A ((wX ax am af ap ab ar) ++ (wR ar C Rt)) s.heap.size = A at hD ⊢
  have hA : ∀ q : Nat, s.heap.size ≤ q → A q := fun q h => by rw [← hAe]; exact Or.inr h
  have hS : va_S A s.heap s.heap [] := va_S.rf
  have hP : va_P D vwCl [((ax 0), .inr (6, [.ref (am 0), .ref (af 0), .ref (ap 0), .ref (ab 0), .ref (ar 0)])), ((ar 0), .inr (4, [.ref (ar 1), .ref (ar 6), .ref (ar 7), .ref (ar 8), .int (Rt 7 0), .int (Rt 7 1), .int (Rt 7 2)])), ((ar 1), eII C 4 (rr ar 2 4)), ((ar 2), eI C 6 (Rt 0)), ((ar 3), eI C 6 (Rt 1)), ((ar 4), eI C 6 (Rt 2)), ((ar 5), eI C 6 (Rt 3)), ((ar 6), eI C 6 (Rt 4)), ((ar 7), eI C 6 (Rt 5)), ((ar 8), eI C 4 (Rt 6))] s.heap := hP
  have hD : va_D A [((ax 0), .inr (6, [.ref (am 0), .ref (af 0), .ref (ap 0), .ref (ab 0), .ref (ar 0)])), ((ar 0), .inr (4, [.ref (ar 1), .ref (ar 6), .ref (ar 7), .ref (ar 8), .int (Rt 7 0), .int (Rt 7 1), .int (Rt 7 2)])), ((ar 1), eII C 4 (rr ar 2 4)), ((ar 2), eI C 6 (Rt 0)), ((ar 3), eI C 6 (Rt 1)), ((ar 4), eI C 6 (Rt 2)), ((ar 5), eI C 6 (Rt 3)), ((ar 6), eI C 6 (Rt 4)), ((ar 7), eI C 6 (Rt 5)), ((ar 8), eI C 4 (Rt 6))] := hD
  have hl := lv_entry ([.ref (ax 0), .int nn, .int layer]) (n := 3) (Nat.le_of_ble_eq_true rfl)
  rw [lg_entry_eq]
  generalize (lg_sl ([.ref (ax 0), .int nn, .int layer]) ++ List.replicate (3 - (lg_sl ([.ref (ax 0), .int nn, .int layer])).length) Slot.unset).toArray = ls at hl ⊢
  have hl : lv_has ls 3 [(0, .ref (ax 0)), (1, .int nn), (2, .int layer)] := hl
  refine lv_iload_n hx hb dX6_route_0 rfl (lv_at hl 1 rfl) ?_
  refine lv_iconst (v := 1) hx hb dX6_route_1 (by decide) ?_
  refine lv_bipush (v := 6) hx hb dX6_route_2 (by decide) ?_
  refine xri (r := f6_outside nn 1 6) (rS (As := [.int nn, .int 1, .int 6]) (n := 3) (rest := []) ⟨hx, hb, hml, hown, hW⟩ (kX6_outside l nn 1 6) (wa tw259 rfl) (wa tw257 rfl) (wa tw258 rfl) (wa tw1 rfl) (by decide +kernel) ⟨Nat.le_of_ble_eq_true rfl, Nat.le_of_ble_eq_true rfl⟩ pS0 hl.1 rfl (Nat.le_of_ble_eq_true rfl) dX6_route_4 ⟨Nat.le_of_ble_eq_true rfl, Nat.le_of_ble_eq_true rfl⟩ rfl rfl rfl) ?_
  refine lv_if_ne (tgt := 21) hx hb dX6_route_7 (by decide) (fun c_1 => ?_) (fun c_1 => ?_)
  · refine lv_ldc hx hb hown (hW _ (wa tw260 rfl)) dX6_route_21 ?_
    have hb_0 : (f6_route_Rt Rt nn layer) = Rt := (by simp only [f6_route, f6_route_Rt, if_neg c_1])
    have hP9 : va_P D vwCl (((wX ax am af ap ab ar) ++ (wR ar C (f6_route_Rt Rt nn layer)))) s.heap := by rw [hb_0]; exact hP
    have hD9 : va_D A (((wX ax am af ap ab ar) ++ (wR ar C (f6_route_Rt Rt nn layer)))) := by rw [hb_0]; exact hD
    exact W.iret (v := (-100002)) hx hb hr (fun t ht _ => ⟨⟨_, (), rfl, (by simp only [f6_route, f6_route_Rt, if_neg c_1]), ⟨by rw [ht]; exact hP9, by rw [hAe]; exact hD9⟩⟩, hS.F ht⟩) hS.2.2 dX6_route_23
  · obtain ⟨n, hn, rfl⟩ := q_16o c_1
    have hix_n : ix (nI n) = n := ix_nI (by omega)
    refine lv_iload_n hx hb dX6_route_10 rfl (lv_at hl 2 rfl) ?_
    refine lv_iconst (v := (-1)) hx hb dX6_route_11 (by decide) ?_
    refine lv_iload_n hx hb dX6_route_12 rfl (lv_at hl 1 rfl) ?_
    refine lv_iconst (v := 1) hx hb dX6_route_13 (by decide) ?_
    refine lv_isub hx hb dX6_route_14 ?_
    refine xri (r := f6_outside layer (-1) ((nI n) - 1)) (rS (As := [.int layer, .int (-1), .int ((nI n) - 1)]) (n := 3) (rest := []) ⟨hx, hb, hml, hown, hW⟩ (kX6_outside l layer (-1) ((nI n) - 1)) (wa tw259 rfl) (wa tw257 rfl) (wa tw258 rfl) (wa tw1 rfl) (by decide +kernel) ⟨Nat.le_of_ble_eq_true rfl, Nat.le_of_ble_eq_true rfl⟩ pS0 hl.1 rfl (Nat.le_of_ble_eq_true rfl) dX6_route_15 ⟨Nat.le_of_ble_eq_true rfl, Nat.le_of_ble_eq_true rfl⟩ rfl rfl rfl) ?_
    refine lv_if_eq (tgt := 24) hx hb dX6_route_18 (by decide) (fun c_2 => ?_) (fun c_2 => ?_)
    · refine lv_aload_n hx hb dX6_route_24 rfl (lv_at hl 0 rfl) ?_
      refine va_get (D := D) (ci := 6) (C := RX6) (T := TX6) (N := 5) hx hb hW inX6 hown hK hP 0 rfl rfl 4 (by decide) (hW _ (wa tw241 rfl)) (fun _ h9 => h9) rfl dX6_route_25 ?_
      refine lv_iload_n hx hb dX6_route_28 rfl (lv_at hl 1 rfl) ?_
      refine xwi (wr := [((ax 0), .inr (6, [.ref (am 0), .ref (af 0), .ref (ap 0), .ref (ab 0), .ref (ar 0)]))]) (rVN (As := [.int (nI n)]) (n := 1) (rest := []) ⟨hx, hb, hml, hown, hW⟩ (kX4_make l D C ar Rt n s.heap.size (by omega) hT) (wa tw520 rfl) (hNw _ tw517 rfl) (wa tw519 rfl) (was ts33 rfl) (wa tw7 rfl) (by decide +kernel) ⟨Nat.le_of_ble_eq_true rfl, Nat.le_of_ble_eq_true rfl⟩ (pVw (hP.sub [1, 2, 3, 4, 5, 6, 7, 8, 9] rfl) (hD.sub [1, 2, 3, 4, 5, 6, 7, 8, 9] (by decide) rfl) hK hNw 0 rfl rfl) hl.1 rfl (Nat.le_of_ble_eq_true rfl) dX6_route_29 ⟨Nat.le_of_ble_eq_true rfl, Nat.le_of_ble_eq_true rfl⟩ rfl rfl rfl) hP hD hS hA [1, 2, 3, 4, 5, 6, 7, 8, 9] [0] rfl rfl (by decide) (by decide) (fun H locs hP hD hS => ?_)
      have hP : va_P D vwCl [((ax 0), .inr (6, [.ref (am 0), .ref (af 0), .ref (ap 0), .ref (ab 0), .ref (ar 0)])), ((ar 0), .inr (4, [.ref (ar 1), .ref (ar 6), .ref (ar 7), .ref (ar 8), .int ((f4_make n Rt) 7 0), .int ((f4_make n Rt) 7 1), .int ((f4_make n Rt) 7 2)])), ((ar 1), eII C 4 (rr ar 2 4)), ((ar 2), eI C 6 ((f4_make n Rt) 0)), ((ar 3), eI C 6 ((f4_make n Rt) 1)), ((ar 4), eI C 6 ((f4_make n Rt) 2)), ((ar 5), eI C 6 ((f4_make n Rt) 3)), ((ar 6), eI C 6 ((f4_make n Rt) 4)), ((ar 7), eI C 6 ((f4_make n Rt) 5)), ((ar 8), eI C 4 ((f4_make n Rt) 6))] H := hP
      have hD : va_D A [((ax 0), .inr (6, [.ref (am 0), .ref (af 0), .ref (ap 0), .ref (ab 0), .ref (ar 0)])), ((ar 0), .inr (4, [.ref (ar 1), .ref (ar 6), .ref (ar 7), .ref (ar 8), .int ((f4_make n Rt) 7 0), .int ((f4_make n Rt) 7 1), .int ((f4_make n Rt) 7 2)])), ((ar 1), eII C 4 (rr ar 2 4)), ((ar 2), eI C 6 ((f4_make n Rt) 0)), ((ar 3), eI C 6 ((f4_make n Rt) 1)), ((ar 4), eI C 6 ((f4_make n Rt) 2)), ((ar 5), eI C 6 ((f4_make n Rt) 3)), ((ar 6), eI C 6 ((f4_make n Rt) 4)), ((ar 7), eI C 6 ((f4_make n Rt) 5)), ((ar 8), eI C 4 ((f4_make n Rt) 6))] := hD
      refine lv_if_ne (tgt := 38) hx hb dX6_route_32 (by decide) (fun c_3 => ?_) (fun c_3 => ?_)
      · refine lv_iload_n hx hb dX6_route_38 rfl (lv_at hl 2 rfl) ?_
        refine lv_iconst (v := (-1)) hx hb dX6_route_39 (by decide) ?_
        refine lv_icmp_ne (tgt := 53) hx hb dX6_route_40 (by decide) (fun c_4 => ?_) (fun c_4 => ?_)
        · obtain ⟨y, hy, rfl⟩ := q_layo (by omega) (by omega) c_2 c_4
          have hix_y : ix (nI y) = y := ix_nI (by omega)
          refine lv_aload_n hx hb dX6_route_53 rfl (lv_at hl 0 rfl) ?_
          refine va_get (D := D) (ci := 6) (C := RX6) (T := TX6) (N := 5) hx hb hW inX6 hown hK hP 0 rfl rfl 4 (by decide) (hW _ (wa tw241 rfl)) (fun _ h9 => h9) rfl dX6_route_54 ?_
          refine va_getN (D := D) (host := "FieldAfterField") (ci := 4) (C := RX4) (T := TX4) (N := 7) hx hb hW inX4 hown hK hP 1 rfl rfl 2 (by decide) (va_Nw.use rfl (hNw _ tw214 rfl)) (fun _ h9 => h9) rfl dX6_route_57 ?_
          refine lv_iload_n hx hb dX6_route_60 rfl (lv_at hl 2 rfl) ?_
          refine xiald hx hb hK hP 8 rfl y rfl (by omega) (by decide) dX6_route_61 ?_
          have hb_0 : (f6_route_Rt Rt (nI n) (nI y)) = f4_make n Rt := (by simp only [f6_route, f6_route_Rt, if_pos c_1, if_pos c_2, if_neg c_3, if_neg c_4, hix_n, hix_y])
          have hP9 : va_P D vwCl (((wX ax am af ap ab ar) ++ (wR ar C (f6_route_Rt Rt (nI n) (nI y))))) H := by rw [hb_0]; exact hP
          have hD9 : va_D A (((wX ax am af ap ab ar) ++ (wR ar C (f6_route_Rt Rt (nI n) (nI y))))) := by rw [hb_0]; exact hD
          exact W.iret (v := ((f4_make n Rt) 5) y) hx hb hr (fun t ht _ => ⟨⟨_, (), rfl, (by simp only [f6_route, f6_route_Rt, if_pos c_1, if_pos c_2, if_neg c_3, if_neg c_4, hix_n, hix_y]), ⟨by rw [ht]; exact hP9, by rw [hAe]; exact hD9⟩⟩, hS.F ht⟩) hS.2.2 dX6_route_62
        · refine lv_aload_n hx hb dX6_route_43 rfl (lv_at hl 0 rfl) ?_
          refine va_get (D := D) (ci := 6) (C := RX6) (T := TX6) (N := 5) hx hb hW inX6 hown hK hP 0 rfl rfl 4 (by decide) (hW _ (wa tw241 rfl)) (fun _ h9 => h9) rfl dX6_route_44 ?_
          refine va_getN (D := D) (host := "FieldAfterField") (ci := 4) (C := RX4) (T := TX4) (N := 7) hx hb hW inX4 hown hK hP 1 rfl rfl 6 (by decide) (va_Nw.use rfl (hNw _ tw221 rfl)) (fun _ h9 => h9) rfl dX6_route_47 ?_
          refine lv_goto (tgt := 62) hx hb dX6_route_50 (by decide) ?_
          have hb_0 : (f6_route_Rt Rt (nI n) layer) = f4_make n Rt := (by simp only [f6_route, f6_route_Rt, if_pos c_1, if_pos c_2, if_neg c_3, if_pos c_4, hix_n])
          have hP9 : va_P D vwCl (((wX ax am af ap ab ar) ++ (wR ar C (f6_route_Rt Rt (nI n) layer)))) H := by rw [hb_0]; exact hP
          have hD9 : va_D A (((wX ax am af ap ab ar) ++ (wR ar C (f6_route_Rt Rt (nI n) layer)))) := by rw [hb_0]; exact hD
          exact W.iret (v := (f4_make n Rt) 7 2) hx hb hr (fun t ht _ => ⟨⟨_, (), rfl, (by simp only [f6_route, f6_route_Rt, if_pos c_1, if_pos c_2, if_neg c_3, if_pos c_4, hix_n]), ⟨by rw [ht]; exact hP9, by rw [hAe]; exact hD9⟩⟩, hS.F ht⟩) hS.2.2 dX6_route_62
      · refine lv_ldc hx hb hown (hW _ (wa tw406 rfl)) dX6_route_35 ?_
        have hb_0 : (f6_route_Rt Rt (nI n) layer) = f4_make n Rt := (by simp only [f6_route, f6_route_Rt, if_pos c_1, if_pos c_2, if_pos c_3, hix_n])
        have hP9 : va_P D vwCl (((wX ax am af ap ab ar) ++ (wR ar C (f6_route_Rt Rt (nI n) layer)))) H := by rw [hb_0]; exact hP
        have hD9 : va_D A (((wX ax am af ap ab ar) ++ (wR ar C (f6_route_Rt Rt (nI n) layer)))) := by rw [hb_0]; exact hD
        exact W.iret (v := (-100003)) hx hb hr (fun t ht _ => ⟨⟨_, (), rfl, (by simp only [f6_route, f6_route_Rt, if_pos c_1, if_pos c_2, if_pos c_3, hix_n]), ⟨by rw [ht]; exact hP9, by rw [hAe]; exact hD9⟩⟩, hS.F ht⟩) hS.2.2 dX6_route_37
    · refine lv_ldc hx hb hown (hW _ (wa tw260 rfl)) dX6_route_21 ?_
      have hb_0 : (f6_route_Rt Rt (nI n) layer) = Rt := (by simp only [f6_route, f6_route_Rt, if_pos c_1, if_neg c_2, hix_n])
      have hP9 : va_P D vwCl (((wX ax am af ap ab ar) ++ (wR ar C (f6_route_Rt Rt (nI n) layer)))) s.heap := by rw [hb_0]; exact hP
      have hD9 : va_D A (((wX ax am af ap ab ar) ++ (wR ar C (f6_route_Rt Rt (nI n) layer)))) := by rw [hb_0]; exact hD
      exact W.iret (v := (-100002)) hx hb hr (fun t ht _ => ⟨⟨_, (), rfl, (by simp only [f6_route, f6_route_Rt, if_pos c_1, if_neg c_2, hix_n]), ⟨by rw [ht]; exact hP9, by rw [hAe]; exact hD9⟩⟩, hS.F ht⟩) hS.2.2 dX6_route_23
