def f5_clear_T (T : Nat → Int64) (model : Int32) : Nat → Int64 := (if model = 0 then (vp_updL (vp_updL (vp_updL (vp_updL (vp_updL (vp_updL T 0 0) 1 0) 2 0) 3 1) 4 0) 5 1) else (vp_updL (vp_updL (vp_updL (vp_updL (vp_updL (vp_updL T 0 0) 1 0) 2 0) 3 0) 4 0) 5 0))
set_option maxHeartbeats 4000000 in
set_option maxRecDepth 100000 in
theorem kX5_clear (l : Launch) (D : va_G) (C : Nat → ClassId) (tq : Nat) (T : Nat → Int64) (model : Int32) (sz : Nat)  : Wv l D C yX5_clear cX5_clear 2 0 [.ref tq, .int model] (wT tq C T) ((wT tq C (f5_clear_T T model))) sz := by
  refine Met.ofW (cc := cX5_clear) (maxL := 2) (ret := none) (by decide) rfl ?_
  intro p e s m args below meth c s₁ B hml hv
  obtain ⟨rfl, hsz, hP, hK, hNw, hD0⟩ := hv
  have hx := B.exec
  have hb := B.bytes
  have hr := B.returns
  have hts := atoms_spec (ws := wm yX5_clear cX5_clear 2 none) B.pre
  have hown : s.vm.findClass RX5 = some m.cls := findClass_of_methodNamed B.named
  have hlocks := B.notSynchronized
  have hW : ∀ w ∈ WA, w.before _ s = true := fun w h => hts w (List.mem_cons_of_mem _ h)
  subst hsz
  have hD := hD0.self (sz := s.heap.size)
  generalize hAe : va_A (wT tq C T) s.heap.size = A at hD ⊢
  have hA : ∀ q : Nat, s.heap.size ≤ q → A q := fun q h => by rw [← hAe]; exact Or.inr h
  have hS : va_S A s.heap s.heap [] := va_S.rf
  have hP : va_P D vwCl [(tq, .inr (5, [.long (T 0), .long (T 1), .long (T 2), .long (T 3), .long (T 4), .long (T 5), .long (T 6), .long (T 7), .long (T 8), .long (T 9), .long (T 10), .long (T 11), .long (T 12)]))] s.heap := hP
  have hD : va_D A [(tq, .inr (5, [.long (T 0), .long (T 1), .long (T 2), .long (T 3), .long (T 4), .long (T 5), .long (T 6), .long (T 7), .long (T 8), .long (T 9), .long (T 10), .long (T 11), .long (T 12)]))] := hD
  have hl := lv_entry ([.ref tq, .int model]) (n := 2) (Nat.le_of_ble_eq_true rfl)
  rw [lg_entry_eq]
  generalize (lg_sl ([.ref tq, .int model]) ++ List.replicate (2 - (lg_sl ([.ref tq, .int model])).length) Slot.unset).toArray = ls at hl ⊢
  have hl : lv_has ls 2 [(0, .ref tq), (1, .int model)] := hl
  refine lv_aload_n hx hb dX5_clear_0 rfl (lv_at hl 0 rfl) ?_
  refine lv_lconst (v := 0) hx hb dX5_clear_1 (by decide) ?_
  refine va_put (D := D) (v := .long 0) (ty := .long) (ci := 5) (C := RX5) (T := TX5) (N := 13) hx hb hW inX5 tyX5 tyX5_ok nmX5 hown hK hP hD hS 0 rfl rfl 0 (by decide) (hW _ (wa tw77 rfl)) (fun _ h9 => h9) rfl (by decide +kernel) rfl rfl (Nat.le_of_ble_eq_true rfl) dX5_clear_2 (fun H locs hP hD hS => ?_)
  have hP : va_P D vwCl [(tq, .inr (5, [.long 0, .long (T 1), .long (T 2), .long (T 3), .long (T 4), .long (T 5), .long (T 6), .long (T 7), .long (T 8), .long (T 9), .long (T 10), .long (T 11), .long (T 12)]))] H := hP
  have hD : va_D A [(tq, .inr (5, [.long 0, .long (T 1), .long (T 2), .long (T 3), .long (T 4), .long (T 5), .long (T 6), .long (T 7), .long (T 8), .long (T 9), .long (T 10), .long (T 11), .long (T 12)]))] := hD
  refine lv_aload_n hx hb dX5_clear_5 rfl (lv_at hl 0 rfl) ?_
  refine lv_lconst (v := 0) hx hb dX5_clear_6 (by decide) ?_
  refine va_put (D := D) (v := .long 0) (ty := .long) (ci := 5) (C := RX5) (T := TX5) (N := 13) hx hb hW inX5 tyX5 tyX5_ok nmX5 hown hK hP hD hS 0 rfl rfl 1 (by decide) (hW _ (wa tw78 rfl)) (fun _ h9 => h9) rfl (by decide +kernel) rfl rfl (Nat.le_of_ble_eq_true rfl) dX5_clear_7 (fun H locs hP hD hS => ?_)
  have hP : va_P D vwCl [(tq, .inr (5, [.long 0, .long 0, .long (T 2), .long (T 3), .long (T 4), .long (T 5), .long (T 6), .long (T 7), .long (T 8), .long (T 9), .long (T 10), .long (T 11), .long (T 12)]))] H := hP
  have hD : va_D A [(tq, .inr (5, [.long 0, .long 0, .long (T 2), .long (T 3), .long (T 4), .long (T 5), .long (T 6), .long (T 7), .long (T 8), .long (T 9), .long (T 10), .long (T 11), .long (T 12)]))] := hD
  refine lv_aload_n hx hb dX5_clear_10 rfl (lv_at hl 0 rfl) ?_
  refine lv_lconst (v := 0) hx hb dX5_clear_11 (by decide) ?_
  refine va_put (D := D) (v := .long 0) (ty := .long) (ci := 5) (C := RX5) (T := TX5) (N := 13) hx hb hW inX5 tyX5 tyX5_ok nmX5 hown hK hP hD hS 0 rfl rfl 2 (by decide) (hW _ (wa tw79 rfl)) (fun _ h9 => h9) rfl (by decide +kernel) rfl rfl (Nat.le_of_ble_eq_true rfl) dX5_clear_12 (fun H locs hP hD hS => ?_)
  have hP : va_P D vwCl [(tq, .inr (5, [.long 0, .long 0, .long 0, .long (T 3), .long (T 4), .long (T 5), .long (T 6), .long (T 7), .long (T 8), .long (T 9), .long (T 10), .long (T 11), .long (T 12)]))] H := hP
  have hD : va_D A [(tq, .inr (5, [.long 0, .long 0, .long 0, .long (T 3), .long (T 4), .long (T 5), .long (T 6), .long (T 7), .long (T 8), .long (T 9), .long (T 10), .long (T 11), .long (T 12)]))] := hD
  refine lv_aload_n hx hb dX5_clear_15 rfl (lv_at hl 0 rfl) ?_
  refine lv_lconst (v := 0) hx hb dX5_clear_16 (by decide) ?_
  refine va_put (D := D) (v := .long 0) (ty := .long) (ci := 5) (C := RX5) (T := TX5) (N := 13) hx hb hW inX5 tyX5 tyX5_ok nmX5 hown hK hP hD hS 0 rfl rfl 4 (by decide) (hW _ (wa tw81 rfl)) (fun _ h9 => h9) rfl (by decide +kernel) rfl rfl (Nat.le_of_ble_eq_true rfl) dX5_clear_17 (fun H locs hP hD hS => ?_)
  have hP : va_P D vwCl [(tq, .inr (5, [.long 0, .long 0, .long 0, .long (T 3), .long 0, .long (T 5), .long (T 6), .long (T 7), .long (T 8), .long (T 9), .long (T 10), .long (T 11), .long (T 12)]))] H := hP
  have hD : va_D A [(tq, .inr (5, [.long 0, .long 0, .long 0, .long (T 3), .long 0, .long (T 5), .long (T 6), .long (T 7), .long (T 8), .long (T 9), .long (T 10), .long (T 11), .long (T 12)]))] := hD
  refine lv_aload_n hx hb dX5_clear_20 rfl (lv_at hl 0 rfl) ?_
  refine lv_iload_n hx hb dX5_clear_21 rfl (lv_at hl 1 rfl) ?_
  refine lv_if_ne (tgt := 29) hx hb dX5_clear_22 (by decide) (fun c_1 => ?_) (fun c_1 => ?_)
  · refine lv_lconst (v := 0) hx hb dX5_clear_29 (by decide) ?_
    refine va_put (D := D) (v := .long 0) (ty := .long) (ci := 5) (C := RX5) (T := TX5) (N := 13) hx hb hW inX5 tyX5 tyX5_ok nmX5 hown hK hP hD hS 0 rfl rfl 3 (by decide) (hW _ (wa tw80 rfl)) (fun _ h9 => h9) rfl (by decide +kernel) rfl rfl (Nat.le_of_ble_eq_true rfl) dX5_clear_30 (fun H locs hP hD hS => ?_)
    have hP : va_P D vwCl [(tq, .inr (5, [.long 0, .long 0, .long 0, .long 0, .long 0, .long (T 5), .long (T 6), .long (T 7), .long (T 8), .long (T 9), .long (T 10), .long (T 11), .long (T 12)]))] H := hP
    have hD : va_D A [(tq, .inr (5, [.long 0, .long 0, .long 0, .long 0, .long 0, .long (T 5), .long (T 6), .long (T 7), .long (T 8), .long (T 9), .long (T 10), .long (T 11), .long (T 12)]))] := hD
    refine lv_aload_n hx hb dX5_clear_33 rfl (lv_at hl 0 rfl) ?_
    refine lv_aload_n hx hb dX5_clear_34 rfl (lv_at hl 0 rfl) ?_
    refine va_get (D := D) (ci := 5) (C := RX5) (T := TX5) (N := 13) hx hb hW inX5 hown hK hP 0 rfl rfl 3 (by decide) (hW _ (wa tw80 rfl)) (fun _ h9 => h9) rfl dX5_clear_35 ?_
    refine va_put (D := D) (v := .long 0) (ty := .long) (ci := 5) (C := RX5) (T := TX5) (N := 13) hx hb hW inX5 tyX5 tyX5_ok nmX5 hown hK hP hD hS 0 rfl rfl 5 (by decide) (hW _ (wa tw82 rfl)) (fun _ h9 => h9) rfl (by decide +kernel) rfl rfl (Nat.le_of_ble_eq_true rfl) dX5_clear_38 (fun H locs hP hD hS => ?_)
    have hP : va_P D vwCl [(tq, .inr (5, [.long 0, .long 0, .long 0, .long 0, .long 0, .long 0, .long (T 6), .long (T 7), .long (T 8), .long (T 9), .long (T 10), .long (T 11), .long (T 12)]))] H := hP
    have hD : va_D A [(tq, .inr (5, [.long 0, .long 0, .long 0, .long 0, .long 0, .long 0, .long (T 6), .long (T 7), .long (T 8), .long (T 9), .long (T 10), .long (T 11), .long (T 12)]))] := hD
    have hb_0 : (f5_clear_T T model) = vp_updL (vp_updL (vp_updL (vp_updL (vp_updL (vp_updL T 0 0) 1 0) 2 0) 3 0) 4 0) 5 0 := (by simp only [f5_clear_T, if_neg c_1])
    have hP9 : va_P D vwCl ((wT tq C (f5_clear_T T model))) H := by rw [hb_0]; exact hP
    have hD9 : va_D A ((wT tq C (f5_clear_T T model))) := by rw [hb_0]; exact hD
    exact W.vret hx hb hr (fun t ht _ => ⟨⟨(), rfl, trivial, ⟨by rw [ht]; exact hP9, by rw [hAe]; exact hD9⟩⟩, hS.F ht⟩) hS.2.2 dX5_clear_41
  · refine lv_lconst (v := 1) hx hb dX5_clear_25 (by decide) ?_
    refine lv_goto (tgt := 30) hx hb dX5_clear_26 (by decide) ?_
    refine va_put (D := D) (v := .long 1) (ty := .long) (ci := 5) (C := RX5) (T := TX5) (N := 13) hx hb hW inX5 tyX5 tyX5_ok nmX5 hown hK hP hD hS 0 rfl rfl 3 (by decide) (hW _ (wa tw80 rfl)) (fun _ h9 => h9) rfl (by decide +kernel) rfl rfl (Nat.le_of_ble_eq_true rfl) dX5_clear_30 (fun H locs hP hD hS => ?_)
    have hP : va_P D vwCl [(tq, .inr (5, [.long 0, .long 0, .long 0, .long 1, .long 0, .long (T 5), .long (T 6), .long (T 7), .long (T 8), .long (T 9), .long (T 10), .long (T 11), .long (T 12)]))] H := hP
    have hD : va_D A [(tq, .inr (5, [.long 0, .long 0, .long 0, .long 1, .long 0, .long (T 5), .long (T 6), .long (T 7), .long (T 8), .long (T 9), .long (T 10), .long (T 11), .long (T 12)]))] := hD
    refine lv_aload_n hx hb dX5_clear_33 rfl (lv_at hl 0 rfl) ?_
    refine lv_aload_n hx hb dX5_clear_34 rfl (lv_at hl 0 rfl) ?_
    refine va_get (D := D) (ci := 5) (C := RX5) (T := TX5) (N := 13) hx hb hW inX5 hown hK hP 0 rfl rfl 3 (by decide) (hW _ (wa tw80 rfl)) (fun _ h9 => h9) rfl dX5_clear_35 ?_
    refine va_put (D := D) (v := .long 1) (ty := .long) (ci := 5) (C := RX5) (T := TX5) (N := 13) hx hb hW inX5 tyX5 tyX5_ok nmX5 hown hK hP hD hS 0 rfl rfl 5 (by decide) (hW _ (wa tw82 rfl)) (fun _ h9 => h9) rfl (by decide +kernel) rfl rfl (Nat.le_of_ble_eq_true rfl) dX5_clear_38 (fun H locs hP hD hS => ?_)
    have hP : va_P D vwCl [(tq, .inr (5, [.long 0, .long 0, .long 0, .long 1, .long 0, .long 1, .long (T 6), .long (T 7), .long (T 8), .long (T 9), .long (T 10), .long (T 11), .long (T 12)]))] H := hP
    have hD : va_D A [(tq, .inr (5, [.long 0, .long 0, .long 0, .long 1, .long 0, .long 1, .long (T 6), .long (T 7), .long (T 8), .long (T 9), .long (T 10), .long (T 11), .long (T 12)]))] := hD
    have hb_0 : (f5_clear_T T model) = vp_updL (vp_updL (vp_updL (vp_updL (vp_updL (vp_updL T 0 0) 1 0) 2 0) 3 1) 4 0) 5 1 := (by simp only [f5_clear_T, if_pos c_1])
    have hP9 : va_P D vwCl ((wT tq C (f5_clear_T T model))) H := by rw [hb_0]; exact hP
    have hD9 : va_D A ((wT tq C (f5_clear_T T model))) := by rw [hb_0]; exact hD
    exact W.vret hx hb hr (fun t ht _ => ⟨⟨(), rfl, trivial, ⟨by rw [ht]; exact hP9, by rw [hAe]; exact hD9⟩⟩, hS.F ht⟩) hS.2.2 dX5_clear_41

def f5_add_T (T : Nat → Int64) (x y : Int64) (times : Int32) : Nat → Int64 := (vp_updL (vp_updL (vp_updL (vp_updL (vp_updL (vp_updL T 0 ((T 0) + times.toInt64)) 1 ((T 1) + (times.toInt64 * x))) 2 ((T 2) + (times.toInt64 * y))) 3 ((T 3) + ((times.toInt64 * x) * x))) 4 ((T 4) + ((times.toInt64 * x) * y))) 5 ((T 5) + ((times.toInt64 * y) * y)))
set_option maxHeartbeats 4000000 in
set_option maxRecDepth 100000 in
theorem kX5_add (l : Launch) (D : va_G) (C : Nat → ClassId) (tq : Nat) (T : Nat → Int64) (x y : Int64) (times : Int32) (sz : Nat)  : Wv l D C yX5_add cX5_add 6 0 [.ref tq, .long x, .long y, .int times] (wT tq C T) ((wT tq C (f5_add_T T x y times))) sz := by
  refine Met.ofW (cc := cX5_add) (maxL := 6) (ret := none) (by decide) rfl ?_
  intro p e s m args below meth c s₁ B hml hv
  obtain ⟨rfl, hsz, hP, hK, hNw, hD0⟩ := hv
  have hx := B.exec
  have hb := B.bytes
  have hr := B.returns
  have hts := atoms_spec (ws := wm yX5_add cX5_add 6 none) B.pre
  have hown : s.vm.findClass RX5 = some m.cls := findClass_of_methodNamed B.named
  have hlocks := B.notSynchronized
  have hW : ∀ w ∈ WA, w.before _ s = true := fun w h => hts w (List.mem_cons_of_mem _ h)
  subst hsz
  have hD := hD0.self (sz := s.heap.size)
  generalize hAe : va_A (wT tq C T) s.heap.size = A at hD ⊢
  have hA : ∀ q : Nat, s.heap.size ≤ q → A q := fun q h => by rw [← hAe]; exact Or.inr h
  have hS : va_S A s.heap s.heap [] := va_S.rf
  have hP : va_P D vwCl [(tq, .inr (5, [.long (T 0), .long (T 1), .long (T 2), .long (T 3), .long (T 4), .long (T 5), .long (T 6), .long (T 7), .long (T 8), .long (T 9), .long (T 10), .long (T 11), .long (T 12)]))] s.heap := hP
  have hD : va_D A [(tq, .inr (5, [.long (T 0), .long (T 1), .long (T 2), .long (T 3), .long (T 4), .long (T 5), .long (T 6), .long (T 7), .long (T 8), .long (T 9), .long (T 10), .long (T 11), .long (T 12)]))] := hD
  have hl := lv_entry ([.ref tq, .long x, .long y, .int times]) (n := 6) (Nat.le_of_ble_eq_true rfl)
  rw [lg_entry_eq]
  generalize (lg_sl ([.ref tq, .long x, .long y, .int times]) ++ List.replicate (6 - (lg_sl ([.ref tq, .long x, .long y, .int times])).length) Slot.unset).toArray = ls at hl ⊢
  have hl : lv_has ls 6 [(0, .ref tq), (1, .long x), (3, .long y), (5, .int times)] := hl
  refine lv_aload_n hx hb dX5_add_0 rfl (lv_at hl 0 rfl) ?_
  refine lv_dup hx hb dX5_add_1 rfl ?_
  refine va_get (D := D) (ci := 5) (C := RX5) (T := TX5) (N := 13) hx hb hW inX5 hown hK hP 0 rfl rfl 0 (by decide) (hW _ (wa tw77 rfl)) (fun _ h9 => h9) rfl dX5_add_2 ?_
  refine lv_iload hx hb dX5_add_5 (lv_at hl 3 rfl) ?_
  refine lv_i2l (v := times.toInt64) hx hb dX5_add_7 rfl ?_
  refine lv_ladd hx hb dX5_add_8 ?_
  refine va_put (D := D) (v := .long ((T 0) + times.toInt64)) (ty := .long) (ci := 5) (C := RX5) (T := TX5) (N := 13) hx hb hW inX5 tyX5 tyX5_ok nmX5 hown hK hP hD hS 0 rfl rfl 0 (by decide) (hW _ (wa tw77 rfl)) (fun _ h9 => h9) rfl (by decide +kernel) rfl rfl (Nat.le_of_ble_eq_true rfl) dX5_add_9 (fun H locs hP hD hS => ?_)
  have hP : va_P D vwCl [(tq, .inr (5, [.long ((T 0) + times.toInt64), .long (T 1), .long (T 2), .long (T 3), .long (T 4), .long (T 5), .long (T 6), .long (T 7), .long (T 8), .long (T 9), .long (T 10), .long (T 11), .long (T 12)]))] H := hP
  have hD : va_D A [(tq, .inr (5, [.long ((T 0) + times.toInt64), .long (T 1), .long (T 2), .long (T 3), .long (T 4), .long (T 5), .long (T 6), .long (T 7), .long (T 8), .long (T 9), .long (T 10), .long (T 11), .long (T 12)]))] := hD
  refine lv_aload_n hx hb dX5_add_12 rfl (lv_at hl 0 rfl) ?_
  refine lv_dup hx hb dX5_add_13 rfl ?_
  refine va_get (D := D) (ci := 5) (C := RX5) (T := TX5) (N := 13) hx hb hW inX5 hown hK hP 0 rfl rfl 1 (by decide) (hW _ (wa tw78 rfl)) (fun _ h9 => h9) rfl dX5_add_14 ?_
  refine lv_iload hx hb dX5_add_17 (lv_at hl 3 rfl) ?_
  refine lv_i2l (v := times.toInt64) hx hb dX5_add_19 rfl ?_
  refine lv_lload_n hx hb dX5_add_20 rfl (lv_at hl 1 rfl) ?_
  refine lv_lmul hx hb dX5_add_21 ?_
  refine lv_ladd hx hb dX5_add_22 ?_
  refine va_put (D := D) (v := .long ((T 1) + (times.toInt64 * x))) (ty := .long) (ci := 5) (C := RX5) (T := TX5) (N := 13) hx hb hW inX5 tyX5 tyX5_ok nmX5 hown hK hP hD hS 0 rfl rfl 1 (by decide) (hW _ (wa tw78 rfl)) (fun _ h9 => h9) rfl (by decide +kernel) rfl rfl (Nat.le_of_ble_eq_true rfl) dX5_add_23 (fun H locs hP hD hS => ?_)
  have hP : va_P D vwCl [(tq, .inr (5, [.long ((T 0) + times.toInt64), .long ((T 1) + (times.toInt64 * x)), .long (T 2), .long (T 3), .long (T 4), .long (T 5), .long (T 6), .long (T 7), .long (T 8), .long (T 9), .long (T 10), .long (T 11), .long (T 12)]))] H := hP
  have hD : va_D A [(tq, .inr (5, [.long ((T 0) + times.toInt64), .long ((T 1) + (times.toInt64 * x)), .long (T 2), .long (T 3), .long (T 4), .long (T 5), .long (T 6), .long (T 7), .long (T 8), .long (T 9), .long (T 10), .long (T 11), .long (T 12)]))] := hD
  refine lv_aload_n hx hb dX5_add_26 rfl (lv_at hl 0 rfl) ?_
  refine lv_dup hx hb dX5_add_27 rfl ?_
  refine va_get (D := D) (ci := 5) (C := RX5) (T := TX5) (N := 13) hx hb hW inX5 hown hK hP 0 rfl rfl 2 (by decide) (hW _ (wa tw79 rfl)) (fun _ h9 => h9) rfl dX5_add_28 ?_
  refine lv_iload hx hb dX5_add_31 (lv_at hl 3 rfl) ?_
  refine lv_i2l (v := times.toInt64) hx hb dX5_add_33 rfl ?_
  refine lv_lload_n hx hb dX5_add_34 rfl (lv_at hl 2 rfl) ?_
  refine lv_lmul hx hb dX5_add_35 ?_
  refine lv_ladd hx hb dX5_add_36 ?_
  refine va_put (D := D) (v := .long ((T 2) + (times.toInt64 * y))) (ty := .long) (ci := 5) (C := RX5) (T := TX5) (N := 13) hx hb hW inX5 tyX5 tyX5_ok nmX5 hown hK hP hD hS 0 rfl rfl 2 (by decide) (hW _ (wa tw79 rfl)) (fun _ h9 => h9) rfl (by decide +kernel) rfl rfl (Nat.le_of_ble_eq_true rfl) dX5_add_37 (fun H locs hP hD hS => ?_)
  have hP : va_P D vwCl [(tq, .inr (5, [.long ((T 0) + times.toInt64), .long ((T 1) + (times.toInt64 * x)), .long ((T 2) + (times.toInt64 * y)), .long (T 3), .long (T 4), .long (T 5), .long (T 6), .long (T 7), .long (T 8), .long (T 9), .long (T 10), .long (T 11), .long (T 12)]))] H := hP
  have hD : va_D A [(tq, .inr (5, [.long ((T 0) + times.toInt64), .long ((T 1) + (times.toInt64 * x)), .long ((T 2) + (times.toInt64 * y)), .long (T 3), .long (T 4), .long (T 5), .long (T 6), .long (T 7), .long (T 8), .long (T 9), .long (T 10), .long (T 11), .long (T 12)]))] := hD
  refine lv_aload_n hx hb dX5_add_40 rfl (lv_at hl 0 rfl) ?_
  refine lv_dup hx hb dX5_add_41 rfl ?_
  refine va_get (D := D) (ci := 5) (C := RX5) (T := TX5) (N := 13) hx hb hW inX5 hown hK hP 0 rfl rfl 3 (by decide) (hW _ (wa tw80 rfl)) (fun _ h9 => h9) rfl dX5_add_42 ?_
  refine lv_iload hx hb dX5_add_45 (lv_at hl 3 rfl) ?_
  refine lv_i2l (v := times.toInt64) hx hb dX5_add_47 rfl ?_
  refine lv_lload_n hx hb dX5_add_48 rfl (lv_at hl 1 rfl) ?_
  refine lv_lmul hx hb dX5_add_49 ?_
  refine lv_lload_n hx hb dX5_add_50 rfl (lv_at hl 1 rfl) ?_
  refine lv_lmul hx hb dX5_add_51 ?_
  refine lv_ladd hx hb dX5_add_52 ?_
  refine va_put (D := D) (v := .long ((T 3) + ((times.toInt64 * x) * x))) (ty := .long) (ci := 5) (C := RX5) (T := TX5) (N := 13) hx hb hW inX5 tyX5 tyX5_ok nmX5 hown hK hP hD hS 0 rfl rfl 3 (by decide) (hW _ (wa tw80 rfl)) (fun _ h9 => h9) rfl (by decide +kernel) rfl rfl (Nat.le_of_ble_eq_true rfl) dX5_add_53 (fun H locs hP hD hS => ?_)
  have hP : va_P D vwCl [(tq, .inr (5, [.long ((T 0) + times.toInt64), .long ((T 1) + (times.toInt64 * x)), .long ((T 2) + (times.toInt64 * y)), .long ((T 3) + ((times.toInt64 * x) * x)), .long (T 4), .long (T 5), .long (T 6), .long (T 7), .long (T 8), .long (T 9), .long (T 10), .long (T 11), .long (T 12)]))] H := hP
  have hD : va_D A [(tq, .inr (5, [.long ((T 0) + times.toInt64), .long ((T 1) + (times.toInt64 * x)), .long ((T 2) + (times.toInt64 * y)), .long ((T 3) + ((times.toInt64 * x) * x)), .long (T 4), .long (T 5), .long (T 6), .long (T 7), .long (T 8), .long (T 9), .long (T 10), .long (T 11), .long (T 12)]))] := hD
  refine lv_aload_n hx hb dX5_add_56 rfl (lv_at hl 0 rfl) ?_
  refine lv_dup hx hb dX5_add_57 rfl ?_
  refine va_get (D := D) (ci := 5) (C := RX5) (T := TX5) (N := 13) hx hb hW inX5 hown hK hP 0 rfl rfl 4 (by decide) (hW _ (wa tw81 rfl)) (fun _ h9 => h9) rfl dX5_add_58 ?_
  refine lv_iload hx hb dX5_add_61 (lv_at hl 3 rfl) ?_
  refine lv_i2l (v := times.toInt64) hx hb dX5_add_63 rfl ?_
  refine lv_lload_n hx hb dX5_add_64 rfl (lv_at hl 1 rfl) ?_
  refine lv_lmul hx hb dX5_add_65 ?_
  refine lv_lload_n hx hb dX5_add_66 rfl (lv_at hl 2 rfl) ?_
  refine lv_lmul hx hb dX5_add_67 ?_
  refine lv_ladd hx hb dX5_add_68 ?_
  refine va_put (D := D) (v := .long ((T 4) + ((times.toInt64 * x) * y))) (ty := .long) (ci := 5) (C := RX5) (T := TX5) (N := 13) hx hb hW inX5 tyX5 tyX5_ok nmX5 hown hK hP hD hS 0 rfl rfl 4 (by decide) (hW _ (wa tw81 rfl)) (fun _ h9 => h9) rfl (by decide +kernel) rfl rfl (Nat.le_of_ble_eq_true rfl) dX5_add_69 (fun H locs hP hD hS => ?_)
  have hP : va_P D vwCl [(tq, .inr (5, [.long ((T 0) + times.toInt64), .long ((T 1) + (times.toInt64 * x)), .long ((T 2) + (times.toInt64 * y)), .long ((T 3) + ((times.toInt64 * x) * x)), .long ((T 4) + ((times.toInt64 * x) * y)), .long (T 5), .long (T 6), .long (T 7), .long (T 8), .long (T 9), .long (T 10), .long (T 11), .long (T 12)]))] H := hP
  have hD : va_D A [(tq, .inr (5, [.long ((T 0) + times.toInt64), .long ((T 1) + (times.toInt64 * x)), .long ((T 2) + (times.toInt64 * y)), .long ((T 3) + ((times.toInt64 * x) * x)), .long ((T 4) + ((times.toInt64 * x) * y)), .long (T 5), .long (T 6), .long (T 7), .long (T 8), .long (T 9), .long (T 10), .long (T 11), .long (T 12)]))] := hD
  refine lv_aload_n hx hb dX5_add_72 rfl (lv_at hl 0 rfl) ?_
  refine lv_dup hx hb dX5_add_73 rfl ?_
  refine va_get (D := D) (ci := 5) (C := RX5) (T := TX5) (N := 13) hx hb hW inX5 hown hK hP 0 rfl rfl 5 (by decide) (hW _ (wa tw82 rfl)) (fun _ h9 => h9) rfl dX5_add_74 ?_
  refine lv_iload hx hb dX5_add_77 (lv_at hl 3 rfl) ?_
  refine lv_i2l (v := times.toInt64) hx hb dX5_add_79 rfl ?_
  refine lv_lload_n hx hb dX5_add_80 rfl (lv_at hl 2 rfl) ?_
  refine lv_lmul hx hb dX5_add_81 ?_
  refine lv_lload_n hx hb dX5_add_82 rfl (lv_at hl 2 rfl) ?_
  refine lv_lmul hx hb dX5_add_83 ?_
  refine lv_ladd hx hb dX5_add_84 ?_
  refine va_put (D := D) (v := .long ((T 5) + ((times.toInt64 * y) * y))) (ty := .long) (ci := 5) (C := RX5) (T := TX5) (N := 13) hx hb hW inX5 tyX5 tyX5_ok nmX5 hown hK hP hD hS 0 rfl rfl 5 (by decide) (hW _ (wa tw82 rfl)) (fun _ h9 => h9) rfl (by decide +kernel) rfl rfl (Nat.le_of_ble_eq_true rfl) dX5_add_85 (fun H locs hP hD hS => ?_)
  have hP : va_P D vwCl [(tq, .inr (5, [.long ((T 0) + times.toInt64), .long ((T 1) + (times.toInt64 * x)), .long ((T 2) + (times.toInt64 * y)), .long ((T 3) + ((times.toInt64 * x) * x)), .long ((T 4) + ((times.toInt64 * x) * y)), .long ((T 5) + ((times.toInt64 * y) * y)), .long (T 6), .long (T 7), .long (T 8), .long (T 9), .long (T 10), .long (T 11), .long (T 12)]))] H := hP
  have hD : va_D A [(tq, .inr (5, [.long ((T 0) + times.toInt64), .long ((T 1) + (times.toInt64 * x)), .long ((T 2) + (times.toInt64 * y)), .long ((T 3) + ((times.toInt64 * x) * x)), .long ((T 4) + ((times.toInt64 * x) * y)), .long ((T 5) + ((times.toInt64 * y) * y)), .long (T 6), .long (T 7), .long (T 8), .long (T 9), .long (T 10), .long (T 11), .long (T 12)]))] := hD
  have hb_0 : (f5_add_T T x y times) = vp_updL (vp_updL (vp_updL (vp_updL (vp_updL (vp_updL T 0 ((T 0) + times.toInt64)) 1 ((T 1) + (times.toInt64 * x))) 2 ((T 2) + (times.toInt64 * y))) 3 ((T 3) + ((times.toInt64 * x) * x))) 4 ((T 4) + ((times.toInt64 * x) * y))) 5 ((T 5) + ((times.toInt64 * y) * y)) := (by simp only [f5_add_T])
  have hP9 : va_P D vwCl ((wT tq C (f5_add_T T x y times))) H := by rw [hb_0]; exact hP
  have hD9 : va_D A ((wT tq C (f5_add_T T x y times))) := by rw [hb_0]; exact hD
  exact W.vret hx hb hr (fun t ht _ => ⟨⟨(), rfl, trivial, ⟨by rw [ht]; exact hP9, by rw [hAe]; exact hD9⟩⟩, hS.F ht⟩) hS.2.2 dX5_add_88

def f5_turn_T (T : Nat → Int64) : Nat → Int64 := (vp_updL (vp_updL (vp_updL (vp_updL (vp_updL (vp_updL (vp_updL T 6 (((T 3) * (T 5)) - ((T 4) * (T 4)))) 7 (((T 2) * (T 4)) - ((T 1) * (T 5)))) 8 (((T 1) * (T 4)) - ((T 2) * (T 3)))) 9 (((T 0) * (T 5)) - ((T 2) * (T 2)))) 10 (((T 1) * (T 2)) - ((T 0) * (T 4)))) 11 (((T 0) * (T 3)) - ((T 1) * (T 1)))) 12 ((((T 0) * (((T 3) * (T 5)) - ((T 4) * (T 4)))) + ((T 1) * (((T 2) * (T 4)) - ((T 1) * (T 5))))) + ((T 2) * (((T 1) * (T 4)) - ((T 2) * (T 3))))))
set_option maxHeartbeats 4000000 in
set_option maxRecDepth 100000 in
theorem kX5_turnBack (l : Launch) (D : va_G) (C : Nat → ClassId) (tq : Nat) (T : Nat → Int64)  (sz : Nat)  : Wv l D C yX5_turnBack cX5_turnBack 1 0 [.ref tq] (wT tq C T) ((wT tq C (f5_turn_T T))) sz := by
  refine Met.ofW (cc := cX5_turnBack) (maxL := 1) (ret := none) (by decide) rfl ?_
  intro p e s m args below meth c s₁ B hml hv
  obtain ⟨rfl, hsz, hP, hK, hNw, hD0⟩ := hv
  have hx := B.exec
  have hb := B.bytes
  have hr := B.returns
  have hts := atoms_spec (ws := wm yX5_turnBack cX5_turnBack 1 none) B.pre
  have hown : s.vm.findClass RX5 = some m.cls := findClass_of_methodNamed B.named
  have hlocks := B.notSynchronized
  have hW : ∀ w ∈ WA, w.before _ s = true := fun w h => hts w (List.mem_cons_of_mem _ h)
  subst hsz
  have hD := hD0.self (sz := s.heap.size)
  generalize hAe : va_A (wT tq C T) s.heap.size = A at hD ⊢
  have hA : ∀ q : Nat, s.heap.size ≤ q → A q := fun q h => by rw [← hAe]; exact Or.inr h
  have hS : va_S A s.heap s.heap [] := va_S.rf
  have hP : va_P D vwCl [(tq, .inr (5, [.long (T 0), .long (T 1), .long (T 2), .long (T 3), .long (T 4), .long (T 5), .long (T 6), .long (T 7), .long (T 8), .long (T 9), .long (T 10), .long (T 11), .long (T 12)]))] s.heap := hP
  have hD : va_D A [(tq, .inr (5, [.long (T 0), .long (T 1), .long (T 2), .long (T 3), .long (T 4), .long (T 5), .long (T 6), .long (T 7), .long (T 8), .long (T 9), .long (T 10), .long (T 11), .long (T 12)]))] := hD
  have hl := lv_entry ([.ref tq]) (n := 1) (Nat.le_of_ble_eq_true rfl)
  rw [lg_entry_eq]
  generalize (lg_sl ([.ref tq]) ++ List.replicate (1 - (lg_sl ([.ref tq])).length) Slot.unset).toArray = ls at hl ⊢
  have hl : lv_has ls 1 [(0, .ref tq)] := hl
  refine lv_aload_n hx hb dX5_turnBack_0 rfl (lv_at hl 0 rfl) ?_
  refine lv_aload_n hx hb dX5_turnBack_1 rfl (lv_at hl 0 rfl) ?_
  refine va_get (D := D) (ci := 5) (C := RX5) (T := TX5) (N := 13) hx hb hW inX5 hown hK hP 0 rfl rfl 3 (by decide) (hW _ (wa tw80 rfl)) (fun _ h9 => h9) rfl dX5_turnBack_2 ?_
  refine lv_aload_n hx hb dX5_turnBack_5 rfl (lv_at hl 0 rfl) ?_
  refine va_get (D := D) (ci := 5) (C := RX5) (T := TX5) (N := 13) hx hb hW inX5 hown hK hP 0 rfl rfl 5 (by decide) (hW _ (wa tw82 rfl)) (fun _ h9 => h9) rfl dX5_turnBack_6 ?_
  refine lv_lmul hx hb dX5_turnBack_9 ?_
  refine lv_aload_n hx hb dX5_turnBack_10 rfl (lv_at hl 0 rfl) ?_
  refine va_get (D := D) (ci := 5) (C := RX5) (T := TX5) (N := 13) hx hb hW inX5 hown hK hP 0 rfl rfl 4 (by decide) (hW _ (wa tw81 rfl)) (fun _ h9 => h9) rfl dX5_turnBack_11 ?_
  refine lv_aload_n hx hb dX5_turnBack_14 rfl (lv_at hl 0 rfl) ?_
  refine va_get (D := D) (ci := 5) (C := RX5) (T := TX5) (N := 13) hx hb hW inX5 hown hK hP 0 rfl rfl 4 (by decide) (hW _ (wa tw81 rfl)) (fun _ h9 => h9) rfl dX5_turnBack_15 ?_
  refine lv_lmul hx hb dX5_turnBack_18 ?_
  refine lv_lsub hx hb dX5_turnBack_19 ?_
  refine va_put (D := D) (v := .long (((T 3) * (T 5)) - ((T 4) * (T 4)))) (ty := .long) (ci := 5) (C := RX5) (T := TX5) (N := 13) hx hb hW inX5 tyX5 tyX5_ok nmX5 hown hK hP hD hS 0 rfl rfl 6 (by decide) (hW _ (wa tw83 rfl)) (fun _ h9 => h9) rfl (by decide +kernel) rfl rfl (Nat.le_of_ble_eq_true rfl) dX5_turnBack_20 (fun H locs hP hD hS => ?_)
  have hP : va_P D vwCl [(tq, .inr (5, [.long (T 0), .long (T 1), .long (T 2), .long (T 3), .long (T 4), .long (T 5), .long (((T 3) * (T 5)) - ((T 4) * (T 4))), .long (T 7), .long (T 8), .long (T 9), .long (T 10), .long (T 11), .long (T 12)]))] H := hP
  have hD : va_D A [(tq, .inr (5, [.long (T 0), .long (T 1), .long (T 2), .long (T 3), .long (T 4), .long (T 5), .long (((T 3) * (T 5)) - ((T 4) * (T 4))), .long (T 7), .long (T 8), .long (T 9), .long (T 10), .long (T 11), .long (T 12)]))] := hD
  refine lv_aload_n hx hb dX5_turnBack_23 rfl (lv_at hl 0 rfl) ?_
  refine lv_aload_n hx hb dX5_turnBack_24 rfl (lv_at hl 0 rfl) ?_
  refine va_get (D := D) (ci := 5) (C := RX5) (T := TX5) (N := 13) hx hb hW inX5 hown hK hP 0 rfl rfl 2 (by decide) (hW _ (wa tw79 rfl)) (fun _ h9 => h9) rfl dX5_turnBack_25 ?_
  refine lv_aload_n hx hb dX5_turnBack_28 rfl (lv_at hl 0 rfl) ?_
  refine va_get (D := D) (ci := 5) (C := RX5) (T := TX5) (N := 13) hx hb hW inX5 hown hK hP 0 rfl rfl 4 (by decide) (hW _ (wa tw81 rfl)) (fun _ h9 => h9) rfl dX5_turnBack_29 ?_
  refine lv_lmul hx hb dX5_turnBack_32 ?_
  refine lv_aload_n hx hb dX5_turnBack_33 rfl (lv_at hl 0 rfl) ?_
  refine va_get (D := D) (ci := 5) (C := RX5) (T := TX5) (N := 13) hx hb hW inX5 hown hK hP 0 rfl rfl 1 (by decide) (hW _ (wa tw78 rfl)) (fun _ h9 => h9) rfl dX5_turnBack_34 ?_
  refine lv_aload_n hx hb dX5_turnBack_37 rfl (lv_at hl 0 rfl) ?_
  refine va_get (D := D) (ci := 5) (C := RX5) (T := TX5) (N := 13) hx hb hW inX5 hown hK hP 0 rfl rfl 5 (by decide) (hW _ (wa tw82 rfl)) (fun _ h9 => h9) rfl dX5_turnBack_38 ?_
  refine lv_lmul hx hb dX5_turnBack_41 ?_
  refine lv_lsub hx hb dX5_turnBack_42 ?_
  refine va_put (D := D) (v := .long (((T 2) * (T 4)) - ((T 1) * (T 5)))) (ty := .long) (ci := 5) (C := RX5) (T := TX5) (N := 13) hx hb hW inX5 tyX5 tyX5_ok nmX5 hown hK hP hD hS 0 rfl rfl 7 (by decide) (hW _ (wa tw86 rfl)) (fun _ h9 => h9) rfl (by decide +kernel) rfl rfl (Nat.le_of_ble_eq_true rfl) dX5_turnBack_43 (fun H locs hP hD hS => ?_)
  have hP : va_P D vwCl [(tq, .inr (5, [.long (T 0), .long (T 1), .long (T 2), .long (T 3), .long (T 4), .long (T 5), .long (((T 3) * (T 5)) - ((T 4) * (T 4))), .long (((T 2) * (T 4)) - ((T 1) * (T 5))), .long (T 8), .long (T 9), .long (T 10), .long (T 11), .long (T 12)]))] H := hP
  have hD : va_D A [(tq, .inr (5, [.long (T 0), .long (T 1), .long (T 2), .long (T 3), .long (T 4), .long (T 5), .long (((T 3) * (T 5)) - ((T 4) * (T 4))), .long (((T 2) * (T 4)) - ((T 1) * (T 5))), .long (T 8), .long (T 9), .long (T 10), .long (T 11), .long (T 12)]))] := hD
  refine lv_aload_n hx hb dX5_turnBack_46 rfl (lv_at hl 0 rfl) ?_
  refine lv_aload_n hx hb dX5_turnBack_47 rfl (lv_at hl 0 rfl) ?_
  refine va_get (D := D) (ci := 5) (C := RX5) (T := TX5) (N := 13) hx hb hW inX5 hown hK hP 0 rfl rfl 1 (by decide) (hW _ (wa tw78 rfl)) (fun _ h9 => h9) rfl dX5_turnBack_48 ?_
  refine lv_aload_n hx hb dX5_turnBack_51 rfl (lv_at hl 0 rfl) ?_
  refine va_get (D := D) (ci := 5) (C := RX5) (T := TX5) (N := 13) hx hb hW inX5 hown hK hP 0 rfl rfl 4 (by decide) (hW _ (wa tw81 rfl)) (fun _ h9 => h9) rfl dX5_turnBack_52 ?_
  refine lv_lmul hx hb dX5_turnBack_55 ?_
  refine lv_aload_n hx hb dX5_turnBack_56 rfl (lv_at hl 0 rfl) ?_
  refine va_get (D := D) (ci := 5) (C := RX5) (T := TX5) (N := 13) hx hb hW inX5 hown hK hP 0 rfl rfl 2 (by decide) (hW _ (wa tw79 rfl)) (fun _ h9 => h9) rfl dX5_turnBack_57 ?_
  refine lv_aload_n hx hb dX5_turnBack_60 rfl (lv_at hl 0 rfl) ?_
  refine va_get (D := D) (ci := 5) (C := RX5) (T := TX5) (N := 13) hx hb hW inX5 hown hK hP 0 rfl rfl 3 (by decide) (hW _ (wa tw80 rfl)) (fun _ h9 => h9) rfl dX5_turnBack_61 ?_
  refine lv_lmul hx hb dX5_turnBack_64 ?_
  refine lv_lsub hx hb dX5_turnBack_65 ?_
  refine va_put (D := D) (v := .long (((T 1) * (T 4)) - ((T 2) * (T 3)))) (ty := .long) (ci := 5) (C := RX5) (T := TX5) (N := 13) hx hb hW inX5 tyX5 tyX5_ok nmX5 hown hK hP hD hS 0 rfl rfl 8 (by decide) (hW _ (wa tw88 rfl)) (fun _ h9 => h9) rfl (by decide +kernel) rfl rfl (Nat.le_of_ble_eq_true rfl) dX5_turnBack_66 (fun H locs hP hD hS => ?_)
  have hP : va_P D vwCl [(tq, .inr (5, [.long (T 0), .long (T 1), .long (T 2), .long (T 3), .long (T 4), .long (T 5), .long (((T 3) * (T 5)) - ((T 4) * (T 4))), .long (((T 2) * (T 4)) - ((T 1) * (T 5))), .long (((T 1) * (T 4)) - ((T 2) * (T 3))), .long (T 9), .long (T 10), .long (T 11), .long (T 12)]))] H := hP
  have hD : va_D A [(tq, .inr (5, [.long (T 0), .long (T 1), .long (T 2), .long (T 3), .long (T 4), .long (T 5), .long (((T 3) * (T 5)) - ((T 4) * (T 4))), .long (((T 2) * (T 4)) - ((T 1) * (T 5))), .long (((T 1) * (T 4)) - ((T 2) * (T 3))), .long (T 9), .long (T 10), .long (T 11), .long (T 12)]))] := hD
  refine lv_aload_n hx hb dX5_turnBack_69 rfl (lv_at hl 0 rfl) ?_
  refine lv_aload_n hx hb dX5_turnBack_70 rfl (lv_at hl 0 rfl) ?_
  refine va_get (D := D) (ci := 5) (C := RX5) (T := TX5) (N := 13) hx hb hW inX5 hown hK hP 0 rfl rfl 0 (by decide) (hW _ (wa tw77 rfl)) (fun _ h9 => h9) rfl dX5_turnBack_71 ?_
  refine lv_aload_n hx hb dX5_turnBack_74 rfl (lv_at hl 0 rfl) ?_
  refine va_get (D := D) (ci := 5) (C := RX5) (T := TX5) (N := 13) hx hb hW inX5 hown hK hP 0 rfl rfl 5 (by decide) (hW _ (wa tw82 rfl)) (fun _ h9 => h9) rfl dX5_turnBack_75 ?_
  refine lv_lmul hx hb dX5_turnBack_78 ?_
  refine lv_aload_n hx hb dX5_turnBack_79 rfl (lv_at hl 0 rfl) ?_
  refine va_get (D := D) (ci := 5) (C := RX5) (T := TX5) (N := 13) hx hb hW inX5 hown hK hP 0 rfl rfl 2 (by decide) (hW _ (wa tw79 rfl)) (fun _ h9 => h9) rfl dX5_turnBack_80 ?_
  refine lv_aload_n hx hb dX5_turnBack_83 rfl (lv_at hl 0 rfl) ?_
  refine va_get (D := D) (ci := 5) (C := RX5) (T := TX5) (N := 13) hx hb hW inX5 hown hK hP 0 rfl rfl 2 (by decide) (hW _ (wa tw79 rfl)) (fun _ h9 => h9) rfl dX5_turnBack_84 ?_
  refine lv_lmul hx hb dX5_turnBack_87 ?_
  refine lv_lsub hx hb dX5_turnBack_88 ?_
  refine va_put (D := D) (v := .long (((T 0) * (T 5)) - ((T 2) * (T 2)))) (ty := .long) (ci := 5) (C := RX5) (T := TX5) (N := 13) hx hb hW inX5 tyX5 tyX5_ok nmX5 hown hK hP hD hS 0 rfl rfl 9 (by decide) (hW _ (wa tw90 rfl)) (fun _ h9 => h9) rfl (by decide +kernel) rfl rfl (Nat.le_of_ble_eq_true rfl) dX5_turnBack_89 (fun H locs hP hD hS => ?_)
  have hP : va_P D vwCl [(tq, .inr (5, [.long (T 0), .long (T 1), .long (T 2), .long (T 3), .long (T 4), .long (T 5), .long (((T 3) * (T 5)) - ((T 4) * (T 4))), .long (((T 2) * (T 4)) - ((T 1) * (T 5))), .long (((T 1) * (T 4)) - ((T 2) * (T 3))), .long (((T 0) * (T 5)) - ((T 2) * (T 2))), .long (T 10), .long (T 11), .long (T 12)]))] H := hP
  have hD : va_D A [(tq, .inr (5, [.long (T 0), .long (T 1), .long (T 2), .long (T 3), .long (T 4), .long (T 5), .long (((T 3) * (T 5)) - ((T 4) * (T 4))), .long (((T 2) * (T 4)) - ((T 1) * (T 5))), .long (((T 1) * (T 4)) - ((T 2) * (T 3))), .long (((T 0) * (T 5)) - ((T 2) * (T 2))), .long (T 10), .long (T 11), .long (T 12)]))] := hD
  refine lv_aload_n hx hb dX5_turnBack_92 rfl (lv_at hl 0 rfl) ?_
  refine lv_aload_n hx hb dX5_turnBack_93 rfl (lv_at hl 0 rfl) ?_
  refine va_get (D := D) (ci := 5) (C := RX5) (T := TX5) (N := 13) hx hb hW inX5 hown hK hP 0 rfl rfl 1 (by decide) (hW _ (wa tw78 rfl)) (fun _ h9 => h9) rfl dX5_turnBack_94 ?_
  refine lv_aload_n hx hb dX5_turnBack_97 rfl (lv_at hl 0 rfl) ?_
  refine va_get (D := D) (ci := 5) (C := RX5) (T := TX5) (N := 13) hx hb hW inX5 hown hK hP 0 rfl rfl 2 (by decide) (hW _ (wa tw79 rfl)) (fun _ h9 => h9) rfl dX5_turnBack_98 ?_
  refine lv_lmul hx hb dX5_turnBack_101 ?_
  refine lv_aload_n hx hb dX5_turnBack_102 rfl (lv_at hl 0 rfl) ?_
  refine va_get (D := D) (ci := 5) (C := RX5) (T := TX5) (N := 13) hx hb hW inX5 hown hK hP 0 rfl rfl 0 (by decide) (hW _ (wa tw77 rfl)) (fun _ h9 => h9) rfl dX5_turnBack_103 ?_
  refine lv_aload_n hx hb dX5_turnBack_106 rfl (lv_at hl 0 rfl) ?_
  refine va_get (D := D) (ci := 5) (C := RX5) (T := TX5) (N := 13) hx hb hW inX5 hown hK hP 0 rfl rfl 4 (by decide) (hW _ (wa tw81 rfl)) (fun _ h9 => h9) rfl dX5_turnBack_107 ?_
  refine lv_lmul hx hb dX5_turnBack_110 ?_
  refine lv_lsub hx hb dX5_turnBack_111 ?_
  refine va_put (D := D) (v := .long (((T 1) * (T 2)) - ((T 0) * (T 4)))) (ty := .long) (ci := 5) (C := RX5) (T := TX5) (N := 13) hx hb hW inX5 tyX5 tyX5_ok nmX5 hown hK hP hD hS 0 rfl rfl 10 (by decide) (hW _ (wa tw92 rfl)) (fun _ h9 => h9) rfl (by decide +kernel) rfl rfl (Nat.le_of_ble_eq_true rfl) dX5_turnBack_112 (fun H locs hP hD hS => ?_)
  have hP : va_P D vwCl [(tq, .inr (5, [.long (T 0), .long (T 1), .long (T 2), .long (T 3), .long (T 4), .long (T 5), .long (((T 3) * (T 5)) - ((T 4) * (T 4))), .long (((T 2) * (T 4)) - ((T 1) * (T 5))), .long (((T 1) * (T 4)) - ((T 2) * (T 3))), .long (((T 0) * (T 5)) - ((T 2) * (T 2))), .long (((T 1) * (T 2)) - ((T 0) * (T 4))), .long (T 11), .long (T 12)]))] H := hP
  have hD : va_D A [(tq, .inr (5, [.long (T 0), .long (T 1), .long (T 2), .long (T 3), .long (T 4), .long (T 5), .long (((T 3) * (T 5)) - ((T 4) * (T 4))), .long (((T 2) * (T 4)) - ((T 1) * (T 5))), .long (((T 1) * (T 4)) - ((T 2) * (T 3))), .long (((T 0) * (T 5)) - ((T 2) * (T 2))), .long (((T 1) * (T 2)) - ((T 0) * (T 4))), .long (T 11), .long (T 12)]))] := hD
  refine lv_aload_n hx hb dX5_turnBack_115 rfl (lv_at hl 0 rfl) ?_
  refine lv_aload_n hx hb dX5_turnBack_116 rfl (lv_at hl 0 rfl) ?_
  refine va_get (D := D) (ci := 5) (C := RX5) (T := TX5) (N := 13) hx hb hW inX5 hown hK hP 0 rfl rfl 0 (by decide) (hW _ (wa tw77 rfl)) (fun _ h9 => h9) rfl dX5_turnBack_117 ?_
  refine lv_aload_n hx hb dX5_turnBack_120 rfl (lv_at hl 0 rfl) ?_
  refine va_get (D := D) (ci := 5) (C := RX5) (T := TX5) (N := 13) hx hb hW inX5 hown hK hP 0 rfl rfl 3 (by decide) (hW _ (wa tw80 rfl)) (fun _ h9 => h9) rfl dX5_turnBack_121 ?_
  refine lv_lmul hx hb dX5_turnBack_124 ?_
  refine lv_aload_n hx hb dX5_turnBack_125 rfl (lv_at hl 0 rfl) ?_
  refine va_get (D := D) (ci := 5) (C := RX5) (T := TX5) (N := 13) hx hb hW inX5 hown hK hP 0 rfl rfl 1 (by decide) (hW _ (wa tw78 rfl)) (fun _ h9 => h9) rfl dX5_turnBack_126 ?_
  refine lv_aload_n hx hb dX5_turnBack_129 rfl (lv_at hl 0 rfl) ?_
  refine va_get (D := D) (ci := 5) (C := RX5) (T := TX5) (N := 13) hx hb hW inX5 hown hK hP 0 rfl rfl 1 (by decide) (hW _ (wa tw78 rfl)) (fun _ h9 => h9) rfl dX5_turnBack_130 ?_
  refine lv_lmul hx hb dX5_turnBack_133 ?_
  refine lv_lsub hx hb dX5_turnBack_134 ?_
  refine va_put (D := D) (v := .long (((T 0) * (T 3)) - ((T 1) * (T 1)))) (ty := .long) (ci := 5) (C := RX5) (T := TX5) (N := 13) hx hb hW inX5 tyX5 tyX5_ok nmX5 hown hK hP hD hS 0 rfl rfl 11 (by decide) (hW _ (wa tw94 rfl)) (fun _ h9 => h9) rfl (by decide +kernel) rfl rfl (Nat.le_of_ble_eq_true rfl) dX5_turnBack_135 (fun H locs hP hD hS => ?_)
  have hP : va_P D vwCl [(tq, .inr (5, [.long (T 0), .long (T 1), .long (T 2), .long (T 3), .long (T 4), .long (T 5), .long (((T 3) * (T 5)) - ((T 4) * (T 4))), .long (((T 2) * (T 4)) - ((T 1) * (T 5))), .long (((T 1) * (T 4)) - ((T 2) * (T 3))), .long (((T 0) * (T 5)) - ((T 2) * (T 2))), .long (((T 1) * (T 2)) - ((T 0) * (T 4))), .long (((T 0) * (T 3)) - ((T 1) * (T 1))), .long (T 12)]))] H := hP
  have hD : va_D A [(tq, .inr (5, [.long (T 0), .long (T 1), .long (T 2), .long (T 3), .long (T 4), .long (T 5), .long (((T 3) * (T 5)) - ((T 4) * (T 4))), .long (((T 2) * (T 4)) - ((T 1) * (T 5))), .long (((T 1) * (T 4)) - ((T 2) * (T 3))), .long (((T 0) * (T 5)) - ((T 2) * (T 2))), .long (((T 1) * (T 2)) - ((T 0) * (T 4))), .long (((T 0) * (T 3)) - ((T 1) * (T 1))), .long (T 12)]))] := hD
  refine lv_aload_n hx hb dX5_turnBack_138 rfl (lv_at hl 0 rfl) ?_
  refine lv_aload_n hx hb dX5_turnBack_139 rfl (lv_at hl 0 rfl) ?_
  refine va_get (D := D) (ci := 5) (C := RX5) (T := TX5) (N := 13) hx hb hW inX5 hown hK hP 0 rfl rfl 0 (by decide) (hW _ (wa tw77 rfl)) (fun _ h9 => h9) rfl dX5_turnBack_140 ?_
  refine lv_aload_n hx hb dX5_turnBack_143 rfl (lv_at hl 0 rfl) ?_
  refine va_get (D := D) (ci := 5) (C := RX5) (T := TX5) (N := 13) hx hb hW inX5 hown hK hP 0 rfl rfl 6 (by decide) (hW _ (wa tw83 rfl)) (fun _ h9 => h9) rfl dX5_turnBack_144 ?_
  refine lv_lmul hx hb dX5_turnBack_147 ?_
  refine lv_aload_n hx hb dX5_turnBack_148 rfl (lv_at hl 0 rfl) ?_
  refine va_get (D := D) (ci := 5) (C := RX5) (T := TX5) (N := 13) hx hb hW inX5 hown hK hP 0 rfl rfl 1 (by decide) (hW _ (wa tw78 rfl)) (fun _ h9 => h9) rfl dX5_turnBack_149 ?_
  refine lv_aload_n hx hb dX5_turnBack_152 rfl (lv_at hl 0 rfl) ?_
  refine va_get (D := D) (ci := 5) (C := RX5) (T := TX5) (N := 13) hx hb hW inX5 hown hK hP 0 rfl rfl 7 (by decide) (hW _ (wa tw86 rfl)) (fun _ h9 => h9) rfl dX5_turnBack_153 ?_
  refine lv_lmul hx hb dX5_turnBack_156 ?_
  refine lv_ladd hx hb dX5_turnBack_157 ?_
  refine lv_aload_n hx hb dX5_turnBack_158 rfl (lv_at hl 0 rfl) ?_
  refine va_get (D := D) (ci := 5) (C := RX5) (T := TX5) (N := 13) hx hb hW inX5 hown hK hP 0 rfl rfl 2 (by decide) (hW _ (wa tw79 rfl)) (fun _ h9 => h9) rfl dX5_turnBack_159 ?_
  refine lv_aload_n hx hb dX5_turnBack_162 rfl (lv_at hl 0 rfl) ?_
  refine va_get (D := D) (ci := 5) (C := RX5) (T := TX5) (N := 13) hx hb hW inX5 hown hK hP 0 rfl rfl 8 (by decide) (hW _ (wa tw88 rfl)) (fun _ h9 => h9) rfl dX5_turnBack_163 ?_
  refine lv_lmul hx hb dX5_turnBack_166 ?_
  refine lv_ladd hx hb dX5_turnBack_167 ?_
  refine va_put (D := D) (v := .long ((((T 0) * (((T 3) * (T 5)) - ((T 4) * (T 4)))) + ((T 1) * (((T 2) * (T 4)) - ((T 1) * (T 5))))) + ((T 2) * (((T 1) * (T 4)) - ((T 2) * (T 3)))))) (ty := .long) (ci := 5) (C := RX5) (T := TX5) (N := 13) hx hb hW inX5 tyX5 tyX5_ok nmX5 hown hK hP hD hS 0 rfl rfl 12 (by decide) (hW _ (wa tw96 rfl)) (fun _ h9 => h9) rfl (by decide +kernel) rfl rfl (Nat.le_of_ble_eq_true rfl) dX5_turnBack_168 (fun H locs hP hD hS => ?_)
  have hP : va_P D vwCl [(tq, .inr (5, [.long (T 0), .long (T 1), .long (T 2), .long (T 3), .long (T 4), .long (T 5), .long (((T 3) * (T 5)) - ((T 4) * (T 4))), .long (((T 2) * (T 4)) - ((T 1) * (T 5))), .long (((T 1) * (T 4)) - ((T 2) * (T 3))), .long (((T 0) * (T 5)) - ((T 2) * (T 2))), .long (((T 1) * (T 2)) - ((T 0) * (T 4))), .long (((T 0) * (T 3)) - ((T 1) * (T 1))), .long ((((T 0) * (((T 3) * (T 5)) - ((T 4) * (T 4)))) + ((T 1) * (((T 2) * (T 4)) - ((T 1) * (T 5))))) + ((T 2) * (((T 1) * (T 4)) - ((T 2) * (T 3)))))]))] H := hP
  have hD : va_D A [(tq, .inr (5, [.long (T 0), .long (T 1), .long (T 2), .long (T 3), .long (T 4), .long (T 5), .long (((T 3) * (T 5)) - ((T 4) * (T 4))), .long (((T 2) * (T 4)) - ((T 1) * (T 5))), .long (((T 1) * (T 4)) - ((T 2) * (T 3))), .long (((T 0) * (T 5)) - ((T 2) * (T 2))), .long (((T 1) * (T 2)) - ((T 0) * (T 4))), .long (((T 0) * (T 3)) - ((T 1) * (T 1))), .long ((((T 0) * (((T 3) * (T 5)) - ((T 4) * (T 4)))) + ((T 1) * (((T 2) * (T 4)) - ((T 1) * (T 5))))) + ((T 2) * (((T 1) * (T 4)) - ((T 2) * (T 3)))))]))] := hD
  have hb_0 : (f5_turn_T T) = vp_updL (vp_updL (vp_updL (vp_updL (vp_updL (vp_updL (vp_updL T 6 (((T 3) * (T 5)) - ((T 4) * (T 4)))) 7 (((T 2) * (T 4)) - ((T 1) * (T 5)))) 8 (((T 1) * (T 4)) - ((T 2) * (T 3)))) 9 (((T 0) * (T 5)) - ((T 2) * (T 2)))) 10 (((T 1) * (T 2)) - ((T 0) * (T 4)))) 11 (((T 0) * (T 3)) - ((T 1) * (T 1)))) 12 ((((T 0) * (((T 3) * (T 5)) - ((T 4) * (T 4)))) + ((T 1) * (((T 2) * (T 4)) - ((T 1) * (T 5))))) + ((T 2) * (((T 1) * (T 4)) - ((T 2) * (T 3))))) := (by simp only [f5_turn_T])
  have hP9 : va_P D vwCl ((wT tq C (f5_turn_T T))) H := by rw [hb_0]; exact hP
  have hD9 : va_D A ((wT tq C (f5_turn_T T))) := by rw [hb_0]; exact hD
  exact W.vret hx hb hr (fun t ht _ => ⟨⟨(), rfl, trivial, ⟨by rw [ht]; exact hP9, by rw [hAe]; exact hD9⟩⟩, hS.F ht⟩) hS.2.2 dX5_turnBack_171

def f5_form (T : Nat → Int64) (x y : Int64) : Int64 := ((((T 6) + ((x * x) * (T 9))) + ((y * y) * (T 11))) + (2 * (((x * (T 7)) + (y * (T 8))) + ((x * y) * (T 10)))))
set_option maxHeartbeats 4000000 in
set_option maxRecDepth 100000 in
theorem kX5_formOf (l : Launch) (D : va_G) (C : Nat → ClassId) (tq : Nat) (T : Nat → Int64) (x y : Int64)  : Rl l D C yX5_formOf cX5_formOf 5 0 [.ref tq, .long x, .long y] (wT tq C T) (f5_form T x y) := by
  refine Met.ofW (cc := cX5_formOf) (maxL := 5) (ret := (some .long)) (by decide) rfl ?_
  intro p e s m args below meth c s₁ B hml hv
  obtain ⟨rfl, hP, hK, hNw⟩ := hv
  have hx := B.exec
  have hb := B.bytes
  have hr := B.returns
  have hts := atoms_spec (ws := wm yX5_formOf cX5_formOf 5 (some .long)) B.pre
  have hown : s.vm.findClass RX5 = some m.cls := findClass_of_methodNamed B.named
  have hlocks := B.notSynchronized
  have hW : ∀ w ∈ WA, w.before _ s = true := fun w h => hts w (List.mem_cons_of_mem _ h)
  have hP : va_P D vwCl [(tq, .inr (5, [.long (T 0), .long (T 1), .long (T 2), .long (T 3), .long (T 4), .long (T 5), .long (T 6), .long (T 7), .long (T 8), .long (T 9), .long (T 10), .long (T 11), .long (T 12)]))] s.heap := hP
  have hl := lv_entry ([.ref tq, .long x, .long y]) (n := 5) (Nat.le_of_ble_eq_true rfl)
  rw [lg_entry_eq]
  generalize (lg_sl ([.ref tq, .long x, .long y]) ++ List.replicate (5 - (lg_sl ([.ref tq, .long x, .long y])).length) Slot.unset).toArray = ls at hl ⊢
  have hl : lv_has ls 5 [(0, .ref tq), (1, .long x), (3, .long y)] := hl
  refine lv_aload_n hx hb dX5_formOf_0 rfl (lv_at hl 0 rfl) ?_
  refine va_get (D := D) (ci := 5) (C := RX5) (T := TX5) (N := 13) hx hb hW inX5 hown hK hP 0 rfl rfl 6 (by decide) (hW _ (wa tw83 rfl)) (fun _ h9 => h9) rfl dX5_formOf_1 ?_
  refine lv_lload_n hx hb dX5_formOf_4 rfl (lv_at hl 1 rfl) ?_
  refine lv_lload_n hx hb dX5_formOf_5 rfl (lv_at hl 1 rfl) ?_
  refine lv_lmul hx hb dX5_formOf_6 ?_
  refine lv_aload_n hx hb dX5_formOf_7 rfl (lv_at hl 0 rfl) ?_
  refine va_get (D := D) (ci := 5) (C := RX5) (T := TX5) (N := 13) hx hb hW inX5 hown hK hP 0 rfl rfl 9 (by decide) (hW _ (wa tw90 rfl)) (fun _ h9 => h9) rfl dX5_formOf_8 ?_
  refine lv_lmul hx hb dX5_formOf_11 ?_
  refine lv_ladd hx hb dX5_formOf_12 ?_
  refine lv_lload_n hx hb dX5_formOf_13 rfl (lv_at hl 2 rfl) ?_
  refine lv_lload_n hx hb dX5_formOf_14 rfl (lv_at hl 2 rfl) ?_
  refine lv_lmul hx hb dX5_formOf_15 ?_
  refine lv_aload_n hx hb dX5_formOf_16 rfl (lv_at hl 0 rfl) ?_
  refine va_get (D := D) (ci := 5) (C := RX5) (T := TX5) (N := 13) hx hb hW inX5 hown hK hP 0 rfl rfl 11 (by decide) (hW _ (wa tw94 rfl)) (fun _ h9 => h9) rfl dX5_formOf_17 ?_
  refine lv_lmul hx hb dX5_formOf_20 ?_
  refine lv_ladd hx hb dX5_formOf_21 ?_
  refine lv_ldc2 hx hb hown (hW _ (wa tw454 rfl)) dX5_formOf_22 ?_
  refine lv_lload_n hx hb dX5_formOf_25 rfl (lv_at hl 1 rfl) ?_
  refine lv_aload_n hx hb dX5_formOf_26 rfl (lv_at hl 0 rfl) ?_
  refine va_get (D := D) (ci := 5) (C := RX5) (T := TX5) (N := 13) hx hb hW inX5 hown hK hP 0 rfl rfl 7 (by decide) (hW _ (wa tw86 rfl)) (fun _ h9 => h9) rfl dX5_formOf_27 ?_
  refine lv_lmul hx hb dX5_formOf_30 ?_
  refine lv_lload_n hx hb dX5_formOf_31 rfl (lv_at hl 2 rfl) ?_
  refine lv_aload_n hx hb dX5_formOf_32 rfl (lv_at hl 0 rfl) ?_
  refine va_get (D := D) (ci := 5) (C := RX5) (T := TX5) (N := 13) hx hb hW inX5 hown hK hP 0 rfl rfl 8 (by decide) (hW _ (wa tw88 rfl)) (fun _ h9 => h9) rfl dX5_formOf_33 ?_
  refine lv_lmul hx hb dX5_formOf_36 ?_
  refine lv_ladd hx hb dX5_formOf_37 ?_
  refine lv_lload_n hx hb dX5_formOf_38 rfl (lv_at hl 1 rfl) ?_
  refine lv_lload_n hx hb dX5_formOf_39 rfl (lv_at hl 2 rfl) ?_
  refine lv_lmul hx hb dX5_formOf_40 ?_
  refine lv_aload_n hx hb dX5_formOf_41 rfl (lv_at hl 0 rfl) ?_
  refine va_get (D := D) (ci := 5) (C := RX5) (T := TX5) (N := 13) hx hb hW inX5 hown hK hP 0 rfl rfl 10 (by decide) (hW _ (wa tw92 rfl)) (fun _ h9 => h9) rfl dX5_formOf_42 ?_
  refine lv_lmul hx hb dX5_formOf_45 ?_
  refine lv_ladd hx hb dX5_formOf_46 ?_
  refine lv_lmul hx hb dX5_formOf_47 ?_
  refine lv_ladd hx hb dX5_formOf_48 ?_
  exact W.lret (v := (((T 6) + ((x * x) * (T 9))) + ((y * y) * (T 11))) + (2 * (((x * (T 7)) + (y * (T 8))) + ((x * y) * (T 10))))) hx hb hr (fun t ht _ => ⟨_, rfl, (by simp only [f5_form]), ht⟩) (fun q h => by cases h) dX5_formOf_49

def f2_has (M : Nat → Nat → Int32) (x : Int32) : Int32 := (if x < 0 then (0) else (if (M 6 0) ≤ x then (0) else (1)))
set_option maxHeartbeats 4000000 in
set_option maxRecDepth 100000 in
theorem kX2_has (l : Launch) (D : va_G) (C : Nat → ClassId) (am : Nat → Nat) (M : Nat → Nat → Int32) (x : Int32)  : Ri l D C yX2_has cX2_has 2 .boolean 0 [.ref (am 0), .int x] (wM am C M) (f2_has M x) := by
  refine Met.ofW (cc := cX2_has) (maxL := 2) (ret := (some .boolean)) (by decide) rfl ?_
  intro p e s m args below meth c s₁ B hml hv
  obtain ⟨rfl, hP, hK, hNw⟩ := hv
  have hx := B.exec
  have hb := B.bytes
  have hr := B.returns
  have hts := atoms_spec (ws := wm yX2_has cX2_has 2 (some .boolean)) B.pre
  have hown : s.vm.findClass RX2 = some m.cls := findClass_of_methodNamed B.named
  have hlocks := B.notSynchronized
  have hW : ∀ w ∈ WA, w.before _ s = true := fun w h => hts w (List.mem_cons_of_mem _ h)
  have hP : va_P D vwCl [((am 0), .inr (2, [.ref (am 1), .ref (am 2), .ref (am 3), .ref (am 4), .ref (am 5), .int (M 6 0), .int (M 6 1), .int (M 6 2)])), ((am 1), eI C 12 (M 0)), ((am 2), eI C 12 (M 1)), ((am 3), eI C 12 (M 2)), ((am 4), eI C 12 (M 3)), ((am 5), eII C 2 (rr am 6 2)), ((am 6), eI C 12 (M 4)), ((am 7), eI C 12 (M 5))] s.heap := hP
  have hl := lv_entry ([.ref (am 0), .int x]) (n := 2) (Nat.le_of_ble_eq_true rfl)
  rw [lg_entry_eq]
  generalize (lg_sl ([.ref (am 0), .int x]) ++ List.replicate (2 - (lg_sl ([.ref (am 0), .int x])).length) Slot.unset).toArray = ls at hl ⊢
  have hl : lv_has ls 2 [(0, .ref (am 0)), (1, .int x)] := hl
  refine lv_iload_n hx hb dX2_has_0 rfl (lv_at hl 1 rfl) ?_
  refine lv_if_lt (tgt := 16) hx hb dX2_has_1 (by decide) (fun c_1 => ?_) (fun c_1 => ?_)
  · refine lv_iconst (v := 0) hx hb dX2_has_16 (by decide) ?_
    exact W.zret (v := 0) hx hb hr rfl (fun t ht _ => ⟨_, rfl, (by simp only [f2_has, if_pos c_1]), ht⟩) (fun q h => by cases h) dX2_has_17
  · refine lv_iload_n hx hb dX2_has_4 rfl (lv_at hl 1 rfl) ?_
    refine lv_aload_n hx hb dX2_has_5 rfl (lv_at hl 0 rfl) ?_
    refine va_get (D := D) (ci := 2) (C := RX2) (T := TX2) (N := 8) hx hb hW inX2 hown hK hP 0 rfl rfl 5 (by decide) (hW _ (wa tw39 rfl)) (fun _ h9 => h9) rfl dX2_has_6 ?_
    refine lv_icmp_ge (tgt := 16) hx hb dX2_has_9 (by decide) (fun c_2 => ?_) (fun c_2 => ?_)
    · refine lv_iconst (v := 0) hx hb dX2_has_16 (by decide) ?_
      exact W.zret (v := 0) hx hb hr rfl (fun t ht _ => ⟨_, rfl, (by simp only [f2_has, if_neg c_1, if_pos c_2]), ht⟩) (fun q h => by cases h) dX2_has_17
    · refine lv_iconst (v := 1) hx hb dX2_has_12 (by decide) ?_
      refine lv_goto (tgt := 17) hx hb dX2_has_13 (by decide) ?_
      exact W.zret (v := 1) hx hb hr rfl (fun t ht _ => ⟨_, rfl, (by simp only [f2_has, if_neg c_1, if_neg c_2]), ht⟩) (fun q h => by cases h) dX2_has_17

def f2_add (M : Nat → Nat → Int32) (N : Nat) (f g i j : Int32) : Int32 := (M 6 0)
def f2_add_M (M : Nat → Nat → Int32) (N : Nat) (f g i j : Int32) : Nat → Nat → Int32 := (uM (uM (uM (uM (uM M 0 (upd (M 0) N f)) 1 (upd (M 1) N g)) 2 (upd (M 2) N i)) 3 (upd (M 3) N j)) 6 (upd (upd (M 6) 0 ((M 6 0) + 1)) 1 ((M 6 1) ||| ((1 : Int32) <<< ((M 6 0) &&& 31)))))
set_option maxHeartbeats 4000000 in
set_option maxRecDepth 100000 in
theorem kX2_add (l : Launch) (D : va_G) (C : Nat → ClassId) (am : Nat → Nat) (M : Nat → Nat → Int32) (f g i j : Int32) (sz : Nat) (N : Nat) (hN : M 6 0 = nI N) (hN12 : N < 12) : Wi l D C yX2_add cX2_add 6 .int 0 [.ref (am 0), .int f, .int g, .int i, .int j] (wM am C M) ((wM am C (f2_add_M M N f g i j))) (f2_add M N f g i j) sz := by
  refine Met.ofW (cc := cX2_add) (maxL := 6) (ret := (some .int)) (by decide) rfl ?_
  intro p e s m args below meth c s₁ B hml hv
  obtain ⟨rfl, hsz, hP, hK, hNw, hD0⟩ := hv
  have hx := B.exec
  have hb := B.bytes
  have hr := B.returns
  have hts := atoms_spec (ws := wm yX2_add cX2_add 6 (some .int)) B.pre
  have hown : s.vm.findClass RX2 = some m.cls := findClass_of_methodNamed B.named
  have hlocks := B.notSynchronized
  have hW : ∀ w ∈ WA, w.before _ s = true := fun w h => hts w (List.mem_cons_of_mem _ h)
  subst hsz
  have hD := hD0.self (sz := s.heap.size)
  generalize hAe : va_A (wM am C M) s.heap.size = A at hD ⊢
  have hA : ∀ q : Nat, s.heap.size ≤ q → A q := fun q h => by rw [← hAe]; exact Or.inr h
  have hS : va_S A s.heap s.heap [] := va_S.rf
  have hP : va_P D vwCl [((am 0), .inr (2, [.ref (am 1), .ref (am 2), .ref (am 3), .ref (am 4), .ref (am 5), .int (M 6 0), .int (M 6 1), .int (M 6 2)])), ((am 1), eI C 12 (M 0)), ((am 2), eI C 12 (M 1)), ((am 3), eI C 12 (M 2)), ((am 4), eI C 12 (M 3)), ((am 5), eII C 2 (rr am 6 2)), ((am 6), eI C 12 (M 4)), ((am 7), eI C 12 (M 5))] s.heap := hP
  have hD : va_D A [((am 0), .inr (2, [.ref (am 1), .ref (am 2), .ref (am 3), .ref (am 4), .ref (am 5), .int (M 6 0), .int (M 6 1), .int (M 6 2)])), ((am 1), eI C 12 (M 0)), ((am 2), eI C 12 (M 1)), ((am 3), eI C 12 (M 2)), ((am 4), eI C 12 (M 3)), ((am 5), eII C 2 (rr am 6 2)), ((am 6), eI C 12 (M 4)), ((am 7), eI C 12 (M 5))] := hD
  have hl := lv_entry ([.ref (am 0), .int f, .int g, .int i, .int j]) (n := 6) (Nat.le_of_ble_eq_true rfl)
  rw [lg_entry_eq]
  generalize (lg_sl ([.ref (am 0), .int f, .int g, .int i, .int j]) ++ List.replicate (6 - (lg_sl ([.ref (am 0), .int f, .int g, .int i, .int j])).length) Slot.unset).toArray = ls at hl ⊢
  have hl : lv_has ls 6 [(0, .ref (am 0)), (1, .int f), (2, .int g), (3, .int i), (4, .int j)] := hl
  refine lv_aload_n hx hb dX2_add_0 rfl (lv_at hl 0 rfl) ?_
  refine va_get (D := D) (ci := 2) (C := RX2) (T := TX2) (N := 8) hx hb hW inX2 hown hK hP 0 rfl rfl 5 (by decide) (hW _ (wa tw39 rfl)) (fun _ h9 => h9) rfl dX2_add_1 ?_
  refine lv_istore (lv' := [(5, .int (M 6 0)), (0, .ref (am 0)), (1, .int f), (2, .int g), (3, .int i), (4, .int j)]) hx hb dX2_add_4 hl (by decide) rfl (fun ls hl => ?_)
  refine lv_aload_n hx hb dX2_add_6 rfl (lv_at hl 1 rfl) ?_
  refine va_get (D := D) (ci := 2) (C := RX2) (T := TX2) (N := 8) hx hb hW inX2 hown hK hP 0 rfl rfl 0 (by decide) (hW _ (wa tw28 rfl)) (fun _ h9 => h9) rfl dX2_add_7 ?_
  refine lv_iload hx hb dX2_add_10 (lv_at hl 0 rfl) ?_
  refine lv_iload_n hx hb dX2_add_12 rfl (lv_at hl 2 rfl) ?_
  refine xiast hx hb hK hP hD hS 1 rfl N hN (by omega) (by decide) dX2_add_13 (fun H locs hP hD hS => ?_)
  have hP : va_P D vwCl [((am 0), .inr (2, [.ref (am 1), .ref (am 2), .ref (am 3), .ref (am 4), .ref (am 5), .int (M 6 0), .int (M 6 1), .int (M 6 2)])), ((am 1), eI C 12 (upd (M 0) N f)), ((am 2), eI C 12 (M 1)), ((am 3), eI C 12 (M 2)), ((am 4), eI C 12 (M 3)), ((am 5), eII C 2 (rr am 6 2)), ((am 6), eI C 12 (M 4)), ((am 7), eI C 12 (M 5))] H := hP
  have hD : va_D A [((am 0), .inr (2, [.ref (am 1), .ref (am 2), .ref (am 3), .ref (am 4), .ref (am 5), .int (M 6 0), .int (M 6 1), .int (M 6 2)])), ((am 1), eI C 12 (upd (M 0) N f)), ((am 2), eI C 12 (M 1)), ((am 3), eI C 12 (M 2)), ((am 4), eI C 12 (M 3)), ((am 5), eII C 2 (rr am 6 2)), ((am 6), eI C 12 (M 4)), ((am 7), eI C 12 (M 5))] := hD
  refine lv_aload_n hx hb dX2_add_14 rfl (lv_at hl 1 rfl) ?_
  refine va_get (D := D) (ci := 2) (C := RX2) (T := TX2) (N := 8) hx hb hW inX2 hown hK hP 0 rfl rfl 1 (by decide) (hW _ (wa tw30 rfl)) (fun _ h9 => h9) rfl dX2_add_15 ?_
  refine lv_iload hx hb dX2_add_18 (lv_at hl 0 rfl) ?_
  refine lv_iload_n hx hb dX2_add_20 rfl (lv_at hl 3 rfl) ?_
  refine xiast hx hb hK hP hD hS 2 rfl N hN (by omega) (by decide) dX2_add_21 (fun H locs hP hD hS => ?_)
  have hP : va_P D vwCl [((am 0), .inr (2, [.ref (am 1), .ref (am 2), .ref (am 3), .ref (am 4), .ref (am 5), .int (M 6 0), .int (M 6 1), .int (M 6 2)])), ((am 1), eI C 12 (upd (M 0) N f)), ((am 2), eI C 12 (upd (M 1) N g)), ((am 3), eI C 12 (M 2)), ((am 4), eI C 12 (M 3)), ((am 5), eII C 2 (rr am 6 2)), ((am 6), eI C 12 (M 4)), ((am 7), eI C 12 (M 5))] H := hP
  have hD : va_D A [((am 0), .inr (2, [.ref (am 1), .ref (am 2), .ref (am 3), .ref (am 4), .ref (am 5), .int (M 6 0), .int (M 6 1), .int (M 6 2)])), ((am 1), eI C 12 (upd (M 0) N f)), ((am 2), eI C 12 (upd (M 1) N g)), ((am 3), eI C 12 (M 2)), ((am 4), eI C 12 (M 3)), ((am 5), eII C 2 (rr am 6 2)), ((am 6), eI C 12 (M 4)), ((am 7), eI C 12 (M 5))] := hD
  refine lv_aload_n hx hb dX2_add_22 rfl (lv_at hl 1 rfl) ?_
  refine va_get (D := D) (ci := 2) (C := RX2) (T := TX2) (N := 8) hx hb hW inX2 hown hK hP 0 rfl rfl 2 (by decide) (hW _ (wa tw32 rfl)) (fun _ h9 => h9) rfl dX2_add_23 ?_
  refine lv_iload hx hb dX2_add_26 (lv_at hl 0 rfl) ?_
  refine lv_iload_n hx hb dX2_add_28 rfl (lv_at hl 4 rfl) ?_
  refine xiast hx hb hK hP hD hS 3 rfl N hN (by omega) (by decide) dX2_add_29 (fun H locs hP hD hS => ?_)
  have hP : va_P D vwCl [((am 0), .inr (2, [.ref (am 1), .ref (am 2), .ref (am 3), .ref (am 4), .ref (am 5), .int (M 6 0), .int (M 6 1), .int (M 6 2)])), ((am 1), eI C 12 (upd (M 0) N f)), ((am 2), eI C 12 (upd (M 1) N g)), ((am 3), eI C 12 (upd (M 2) N i)), ((am 4), eI C 12 (M 3)), ((am 5), eII C 2 (rr am 6 2)), ((am 6), eI C 12 (M 4)), ((am 7), eI C 12 (M 5))] H := hP
  have hD : va_D A [((am 0), .inr (2, [.ref (am 1), .ref (am 2), .ref (am 3), .ref (am 4), .ref (am 5), .int (M 6 0), .int (M 6 1), .int (M 6 2)])), ((am 1), eI C 12 (upd (M 0) N f)), ((am 2), eI C 12 (upd (M 1) N g)), ((am 3), eI C 12 (upd (M 2) N i)), ((am 4), eI C 12 (M 3)), ((am 5), eII C 2 (rr am 6 2)), ((am 6), eI C 12 (M 4)), ((am 7), eI C 12 (M 5))] := hD
  refine lv_aload_n hx hb dX2_add_30 rfl (lv_at hl 1 rfl) ?_
  refine va_get (D := D) (ci := 2) (C := RX2) (T := TX2) (N := 8) hx hb hW inX2 hown hK hP 0 rfl rfl 3 (by decide) (hW _ (wa tw34 rfl)) (fun _ h9 => h9) rfl dX2_add_31 ?_
  refine lv_iload hx hb dX2_add_34 (lv_at hl 0 rfl) ?_
  refine lv_iload hx hb dX2_add_36 (lv_at hl 5 rfl) ?_
  refine xiast hx hb hK hP hD hS 4 rfl N hN (by omega) (by decide) dX2_add_38 (fun H locs hP hD hS => ?_)
  have hP : va_P D vwCl [((am 0), .inr (2, [.ref (am 1), .ref (am 2), .ref (am 3), .ref (am 4), .ref (am 5), .int (M 6 0), .int (M 6 1), .int (M 6 2)])), ((am 1), eI C 12 (upd (M 0) N f)), ((am 2), eI C 12 (upd (M 1) N g)), ((am 3), eI C 12 (upd (M 2) N i)), ((am 4), eI C 12 (upd (M 3) N j)), ((am 5), eII C 2 (rr am 6 2)), ((am 6), eI C 12 (M 4)), ((am 7), eI C 12 (M 5))] H := hP
  have hD : va_D A [((am 0), .inr (2, [.ref (am 1), .ref (am 2), .ref (am 3), .ref (am 4), .ref (am 5), .int (M 6 0), .int (M 6 1), .int (M 6 2)])), ((am 1), eI C 12 (upd (M 0) N f)), ((am 2), eI C 12 (upd (M 1) N g)), ((am 3), eI C 12 (upd (M 2) N i)), ((am 4), eI C 12 (upd (M 3) N j)), ((am 5), eII C 2 (rr am 6 2)), ((am 6), eI C 12 (M 4)), ((am 7), eI C 12 (M 5))] := hD
  refine lv_aload_n hx hb dX2_add_39 rfl (lv_at hl 1 rfl) ?_
  refine lv_dup hx hb dX2_add_40 rfl ?_
  refine va_get (D := D) (ci := 2) (C := RX2) (T := TX2) (N := 8) hx hb hW inX2 hown hK hP 0 rfl rfl 6 (by decide) (hW _ (wa tw43 rfl)) (fun _ h9 => h9) rfl dX2_add_41 ?_
  refine lv_iconst (v := 1) hx hb dX2_add_44 (by decide) ?_
  refine lv_iload hx hb dX2_add_45 (lv_at hl 0 rfl) ?_
  refine lv_ishl hx hb dX2_add_47 ?_
  refine lv_ior hx hb dX2_add_48 ?_
  refine va_put (D := D) (v := .int ((M 6 1) ||| ((1 : Int32) <<< ((M 6 0) &&& 31)))) (ty := .int) (ci := 2) (C := RX2) (T := TX2) (N := 8) hx hb hW inX2 tyX2 tyX2_ok nmX2 hown hK hP hD hS 0 rfl rfl 6 (by decide) (hW _ (wa tw43 rfl)) (fun _ h9 => h9) rfl (by decide +kernel) rfl rfl (Nat.le_of_ble_eq_true rfl) dX2_add_49 (fun H locs hP hD hS => ?_)
  have hP : va_P D vwCl [((am 0), .inr (2, [.ref (am 1), .ref (am 2), .ref (am 3), .ref (am 4), .ref (am 5), .int (M 6 0), .int ((M 6 1) ||| ((1 : Int32) <<< ((M 6 0) &&& 31))), .int (M 6 2)])), ((am 1), eI C 12 (upd (M 0) N f)), ((am 2), eI C 12 (upd (M 1) N g)), ((am 3), eI C 12 (upd (M 2) N i)), ((am 4), eI C 12 (upd (M 3) N j)), ((am 5), eII C 2 (rr am 6 2)), ((am 6), eI C 12 (M 4)), ((am 7), eI C 12 (M 5))] H := hP
  have hD : va_D A [((am 0), .inr (2, [.ref (am 1), .ref (am 2), .ref (am 3), .ref (am 4), .ref (am 5), .int (M 6 0), .int ((M 6 1) ||| ((1 : Int32) <<< ((M 6 0) &&& 31))), .int (M 6 2)])), ((am 1), eI C 12 (upd (M 0) N f)), ((am 2), eI C 12 (upd (M 1) N g)), ((am 3), eI C 12 (upd (M 2) N i)), ((am 4), eI C 12 (upd (M 3) N j)), ((am 5), eII C 2 (rr am 6 2)), ((am 6), eI C 12 (M 4)), ((am 7), eI C 12 (M 5))] := hD
  refine lv_aload_n hx hb dX2_add_52 rfl (lv_at hl 1 rfl) ?_
  refine lv_iload hx hb dX2_add_53 (lv_at hl 0 rfl) ?_
  refine lv_iconst (v := 1) hx hb dX2_add_55 (by decide) ?_
  refine lv_iadd hx hb dX2_add_56 ?_
  refine va_put (D := D) (v := .int ((M 6 0) + 1)) (ty := .int) (ci := 2) (C := RX2) (T := TX2) (N := 8) hx hb hW inX2 tyX2 tyX2_ok nmX2 hown hK hP hD hS 0 rfl rfl 5 (by decide) (hW _ (wa tw39 rfl)) (fun _ h9 => h9) rfl (by decide +kernel) rfl rfl (Nat.le_of_ble_eq_true rfl) dX2_add_57 (fun H locs hP hD hS => ?_)
  have hP : va_P D vwCl [((am 0), .inr (2, [.ref (am 1), .ref (am 2), .ref (am 3), .ref (am 4), .ref (am 5), .int ((M 6 0) + 1), .int ((M 6 1) ||| ((1 : Int32) <<< ((M 6 0) &&& 31))), .int (M 6 2)])), ((am 1), eI C 12 (upd (M 0) N f)), ((am 2), eI C 12 (upd (M 1) N g)), ((am 3), eI C 12 (upd (M 2) N i)), ((am 4), eI C 12 (upd (M 3) N j)), ((am 5), eII C 2 (rr am 6 2)), ((am 6), eI C 12 (M 4)), ((am 7), eI C 12 (M 5))] H := hP
  have hD : va_D A [((am 0), .inr (2, [.ref (am 1), .ref (am 2), .ref (am 3), .ref (am 4), .ref (am 5), .int ((M 6 0) + 1), .int ((M 6 1) ||| ((1 : Int32) <<< ((M 6 0) &&& 31))), .int (M 6 2)])), ((am 1), eI C 12 (upd (M 0) N f)), ((am 2), eI C 12 (upd (M 1) N g)), ((am 3), eI C 12 (upd (M 2) N i)), ((am 4), eI C 12 (upd (M 3) N j)), ((am 5), eII C 2 (rr am 6 2)), ((am 6), eI C 12 (M 4)), ((am 7), eI C 12 (M 5))] := hD
  refine lv_iload hx hb dX2_add_60 (lv_at hl 0 rfl) ?_
  have hb_0 : (f2_add_M M N f g i j) = uM (uM (uM (uM (uM M 0 (upd (M 0) N f)) 1 (upd (M 1) N g)) 2 (upd (M 2) N i)) 3 (upd (M 3) N j)) 6 (upd (upd (M 6) 0 ((M 6 0) + 1)) 1 ((M 6 1) ||| ((1 : Int32) <<< ((M 6 0) &&& 31)))) := (by simp only [f2_add, f2_add_M])
  have hP9 : va_P D vwCl ((wM am C (f2_add_M M N f g i j))) H := by rw [hb_0]; exact hP
  have hD9 : va_D A ((wM am C (f2_add_M M N f g i j))) := by rw [hb_0]; exact hD
  exact W.iret (v := M 6 0) hx hb hr (fun t ht _ => ⟨⟨_, (), rfl, (by simp only [f2_add, f2_add_M]), ⟨by rw [ht]; exact hP9, by rw [hAe]; exact hD9⟩⟩, hS.F ht⟩) hS.2.2 dX2_add_62

def f2_setReads_M (M : Nat → Nat → Int32) (k : Nat) (al ac : Int32) : Nat → Nat → Int32 := (uM (uM (uM M 4 (upd (M 4) k al)) 5 (upd (M 5) k ac)) 6 (upd (upd (M 6) 1 ((M 6 1) &&& (((1 : Int32) <<< ((nI k) &&& 31)) ^^^ (-1)))) 2 ((M 6 2) &&& (((1 : Int32) <<< ((nI k) &&& 31)) ^^^ (-1)))))
set_option maxHeartbeats 4000000 in
set_option maxRecDepth 100000 in
theorem kX2_setReads (l : Launch) (D : va_G) (C : Nat → ClassId) (am : Nat → Nat) (M : Nat → Nat → Int32) (k : Nat) (al ac : Int32) (sz : Nat) (hk : k < 12) : Wv l D C yX2_setReads cX2_setReads 4 0 [.ref (am 0), .int (nI k), .int al, .int ac] (wM am C M) ((wM am C (f2_setReads_M M k al ac))) sz := by
  refine Met.ofW (cc := cX2_setReads) (maxL := 4) (ret := none) (by decide) rfl ?_
  intro p e s m args below meth c s₁ B hml hv
  obtain ⟨rfl, hsz, hP, hK, hNw, hD0⟩ := hv
  have hx := B.exec
  have hb := B.bytes
  have hr := B.returns
  have hts := atoms_spec (ws := wm yX2_setReads cX2_setReads 4 none) B.pre
  have hown : s.vm.findClass RX2 = some m.cls := findClass_of_methodNamed B.named
  have hlocks := B.notSynchronized
  have hW : ∀ w ∈ WA, w.before _ s = true := fun w h => hts w (List.mem_cons_of_mem _ h)
  subst hsz
  have hD := hD0.self (sz := s.heap.size)
  generalize hAe : va_A (wM am C M) s.heap.size = A at hD ⊢
  have hA : ∀ q : Nat, s.heap.size ≤ q → A q := fun q h => by rw [← hAe]; exact Or.inr h
  have hS : va_S A s.heap s.heap [] := va_S.rf
  have hP : va_P D vwCl [((am 0), .inr (2, [.ref (am 1), .ref (am 2), .ref (am 3), .ref (am 4), .ref (am 5), .int (M 6 0), .int (M 6 1), .int (M 6 2)])), ((am 1), eI C 12 (M 0)), ((am 2), eI C 12 (M 1)), ((am 3), eI C 12 (M 2)), ((am 4), eI C 12 (M 3)), ((am 5), eII C 2 (rr am 6 2)), ((am 6), eI C 12 (M 4)), ((am 7), eI C 12 (M 5))] s.heap := hP
  have hD : va_D A [((am 0), .inr (2, [.ref (am 1), .ref (am 2), .ref (am 3), .ref (am 4), .ref (am 5), .int (M 6 0), .int (M 6 1), .int (M 6 2)])), ((am 1), eI C 12 (M 0)), ((am 2), eI C 12 (M 1)), ((am 3), eI C 12 (M 2)), ((am 4), eI C 12 (M 3)), ((am 5), eII C 2 (rr am 6 2)), ((am 6), eI C 12 (M 4)), ((am 7), eI C 12 (M 5))] := hD
  have hl := lv_entry ([.ref (am 0), .int (nI k), .int al, .int ac]) (n := 4) (Nat.le_of_ble_eq_true rfl)
  rw [lg_entry_eq]
  generalize (lg_sl ([.ref (am 0), .int (nI k), .int al, .int ac]) ++ List.replicate (4 - (lg_sl ([.ref (am 0), .int (nI k), .int al, .int ac])).length) Slot.unset).toArray = ls at hl ⊢
  have hl : lv_has ls 4 [(0, .ref (am 0)), (1, .int (nI k)), (2, .int al), (3, .int ac)] := hl
  refine lv_aload_n hx hb dX2_setReads_0 rfl (lv_at hl 0 rfl) ?_
  refine va_get (D := D) (ci := 2) (C := RX2) (T := TX2) (N := 8) hx hb hW inX2 hown hK hP 0 rfl rfl 4 (by decide) (hW _ (wa tw36 rfl)) (fun _ h9 => h9) rfl dX2_setReads_1 ?_
  refine lv_iconst (v := 0) hx hb dX2_setReads_4 (by decide) ?_
  refine xaaldI hx hb hK hP 5 rfl 0 (nI_lit 0) (by decide) (by decide) (b := (am 6)) rfl dX2_setReads_5 ?_
  refine lv_iload_n hx hb dX2_setReads_6 rfl (lv_at hl 1 rfl) ?_
  refine lv_iload_n hx hb dX2_setReads_7 rfl (lv_at hl 2 rfl) ?_
  refine xiast hx hb hK hP hD hS 6 rfl k rfl (by omega) (by decide) dX2_setReads_8 (fun H locs hP hD hS => ?_)
  have hP : va_P D vwCl [((am 0), .inr (2, [.ref (am 1), .ref (am 2), .ref (am 3), .ref (am 4), .ref (am 5), .int (M 6 0), .int (M 6 1), .int (M 6 2)])), ((am 1), eI C 12 (M 0)), ((am 2), eI C 12 (M 1)), ((am 3), eI C 12 (M 2)), ((am 4), eI C 12 (M 3)), ((am 5), eII C 2 (rr am 6 2)), ((am 6), eI C 12 (upd (M 4) k al)), ((am 7), eI C 12 (M 5))] H := hP
  have hD : va_D A [((am 0), .inr (2, [.ref (am 1), .ref (am 2), .ref (am 3), .ref (am 4), .ref (am 5), .int (M 6 0), .int (M 6 1), .int (M 6 2)])), ((am 1), eI C 12 (M 0)), ((am 2), eI C 12 (M 1)), ((am 3), eI C 12 (M 2)), ((am 4), eI C 12 (M 3)), ((am 5), eII C 2 (rr am 6 2)), ((am 6), eI C 12 (upd (M 4) k al)), ((am 7), eI C 12 (M 5))] := hD
  refine lv_aload_n hx hb dX2_setReads_9 rfl (lv_at hl 0 rfl) ?_
  refine va_get (D := D) (ci := 2) (C := RX2) (T := TX2) (N := 8) hx hb hW inX2 hown hK hP 0 rfl rfl 4 (by decide) (hW _ (wa tw36 rfl)) (fun _ h9 => h9) rfl dX2_setReads_10 ?_
  refine lv_iconst (v := 1) hx hb dX2_setReads_13 (by decide) ?_
  refine xaaldI hx hb hK hP 5 rfl 1 (nI_lit 1) (by decide) (by decide) (b := (am 7)) rfl dX2_setReads_14 ?_
  refine lv_iload_n hx hb dX2_setReads_15 rfl (lv_at hl 1 rfl) ?_
  refine lv_iload_n hx hb dX2_setReads_16 rfl (lv_at hl 3 rfl) ?_
  refine xiast hx hb hK hP hD hS 7 rfl k rfl (by omega) (by decide) dX2_setReads_17 (fun H locs hP hD hS => ?_)
  have hP : va_P D vwCl [((am 0), .inr (2, [.ref (am 1), .ref (am 2), .ref (am 3), .ref (am 4), .ref (am 5), .int (M 6 0), .int (M 6 1), .int (M 6 2)])), ((am 1), eI C 12 (M 0)), ((am 2), eI C 12 (M 1)), ((am 3), eI C 12 (M 2)), ((am 4), eI C 12 (M 3)), ((am 5), eII C 2 (rr am 6 2)), ((am 6), eI C 12 (upd (M 4) k al)), ((am 7), eI C 12 (upd (M 5) k ac))] H := hP
  have hD : va_D A [((am 0), .inr (2, [.ref (am 1), .ref (am 2), .ref (am 3), .ref (am 4), .ref (am 5), .int (M 6 0), .int (M 6 1), .int (M 6 2)])), ((am 1), eI C 12 (M 0)), ((am 2), eI C 12 (M 1)), ((am 3), eI C 12 (M 2)), ((am 4), eI C 12 (M 3)), ((am 5), eII C 2 (rr am 6 2)), ((am 6), eI C 12 (upd (M 4) k al)), ((am 7), eI C 12 (upd (M 5) k ac))] := hD
  refine lv_aload_n hx hb dX2_setReads_18 rfl (lv_at hl 0 rfl) ?_
  refine lv_dup hx hb dX2_setReads_19 rfl ?_
  refine va_get (D := D) (ci := 2) (C := RX2) (T := TX2) (N := 8) hx hb hW inX2 hown hK hP 0 rfl rfl 6 (by decide) (hW _ (wa tw43 rfl)) (fun _ h9 => h9) rfl dX2_setReads_20 ?_
  refine lv_iconst (v := 1) hx hb dX2_setReads_23 (by decide) ?_
  refine lv_iload_n hx hb dX2_setReads_24 rfl (lv_at hl 1 rfl) ?_
  refine lv_ishl hx hb dX2_setReads_25 ?_
  refine lv_iconst (v := (-1)) hx hb dX2_setReads_26 (by decide) ?_
  refine lv_ixor hx hb dX2_setReads_27 ?_
  refine lv_iand hx hb dX2_setReads_28 ?_
  refine va_put (D := D) (v := .int ((M 6 1) &&& (((1 : Int32) <<< ((nI k) &&& 31)) ^^^ (-1)))) (ty := .int) (ci := 2) (C := RX2) (T := TX2) (N := 8) hx hb hW inX2 tyX2 tyX2_ok nmX2 hown hK hP hD hS 0 rfl rfl 6 (by decide) (hW _ (wa tw43 rfl)) (fun _ h9 => h9) rfl (by decide +kernel) rfl rfl (Nat.le_of_ble_eq_true rfl) dX2_setReads_29 (fun H locs hP hD hS => ?_)
  have hP : va_P D vwCl [((am 0), .inr (2, [.ref (am 1), .ref (am 2), .ref (am 3), .ref (am 4), .ref (am 5), .int (M 6 0), .int ((M 6 1) &&& (((1 : Int32) <<< ((nI k) &&& 31)) ^^^ (-1))), .int (M 6 2)])), ((am 1), eI C 12 (M 0)), ((am 2), eI C 12 (M 1)), ((am 3), eI C 12 (M 2)), ((am 4), eI C 12 (M 3)), ((am 5), eII C 2 (rr am 6 2)), ((am 6), eI C 12 (upd (M 4) k al)), ((am 7), eI C 12 (upd (M 5) k ac))] H := hP
  have hD : va_D A [((am 0), .inr (2, [.ref (am 1), .ref (am 2), .ref (am 3), .ref (am 4), .ref (am 5), .int (M 6 0), .int ((M 6 1) &&& (((1 : Int32) <<< ((nI k) &&& 31)) ^^^ (-1))), .int (M 6 2)])), ((am 1), eI C 12 (M 0)), ((am 2), eI C 12 (M 1)), ((am 3), eI C 12 (M 2)), ((am 4), eI C 12 (M 3)), ((am 5), eII C 2 (rr am 6 2)), ((am 6), eI C 12 (upd (M 4) k al)), ((am 7), eI C 12 (upd (M 5) k ac))] := hD
  refine lv_aload_n hx hb dX2_setReads_32 rfl (lv_at hl 0 rfl) ?_
  refine lv_dup hx hb dX2_setReads_33 rfl ?_
  refine va_get (D := D) (ci := 2) (C := RX2) (T := TX2) (N := 8) hx hb hW inX2 hown hK hP 0 rfl rfl 7 (by decide) (hW _ (wa tw45 rfl)) (fun _ h9 => h9) rfl dX2_setReads_34 ?_
  refine lv_iconst (v := 1) hx hb dX2_setReads_37 (by decide) ?_
  refine lv_iload_n hx hb dX2_setReads_38 rfl (lv_at hl 1 rfl) ?_
  refine lv_ishl hx hb dX2_setReads_39 ?_
  refine lv_iconst (v := (-1)) hx hb dX2_setReads_40 (by decide) ?_
  refine lv_ixor hx hb dX2_setReads_41 ?_
  refine lv_iand hx hb dX2_setReads_42 ?_
  refine va_put (D := D) (v := .int ((M 6 2) &&& (((1 : Int32) <<< ((nI k) &&& 31)) ^^^ (-1)))) (ty := .int) (ci := 2) (C := RX2) (T := TX2) (N := 8) hx hb hW inX2 tyX2 tyX2_ok nmX2 hown hK hP hD hS 0 rfl rfl 7 (by decide) (hW _ (wa tw45 rfl)) (fun _ h9 => h9) rfl (by decide +kernel) rfl rfl (Nat.le_of_ble_eq_true rfl) dX2_setReads_43 (fun H locs hP hD hS => ?_)
  have hP : va_P D vwCl [((am 0), .inr (2, [.ref (am 1), .ref (am 2), .ref (am 3), .ref (am 4), .ref (am 5), .int (M 6 0), .int ((M 6 1) &&& (((1 : Int32) <<< ((nI k) &&& 31)) ^^^ (-1))), .int ((M 6 2) &&& (((1 : Int32) <<< ((nI k) &&& 31)) ^^^ (-1)))])), ((am 1), eI C 12 (M 0)), ((am 2), eI C 12 (M 1)), ((am 3), eI C 12 (M 2)), ((am 4), eI C 12 (M 3)), ((am 5), eII C 2 (rr am 6 2)), ((am 6), eI C 12 (upd (M 4) k al)), ((am 7), eI C 12 (upd (M 5) k ac))] H := hP
  have hD : va_D A [((am 0), .inr (2, [.ref (am 1), .ref (am 2), .ref (am 3), .ref (am 4), .ref (am 5), .int (M 6 0), .int ((M 6 1) &&& (((1 : Int32) <<< ((nI k) &&& 31)) ^^^ (-1))), .int ((M 6 2) &&& (((1 : Int32) <<< ((nI k) &&& 31)) ^^^ (-1)))])), ((am 1), eI C 12 (M 0)), ((am 2), eI C 12 (M 1)), ((am 3), eI C 12 (M 2)), ((am 4), eI C 12 (M 3)), ((am 5), eII C 2 (rr am 6 2)), ((am 6), eI C 12 (upd (M 4) k al)), ((am 7), eI C 12 (upd (M 5) k ac))] := hD
  have hb_0 : (f2_setReads_M M k al ac) = uM (uM (uM M 4 (upd (M 4) k al)) 5 (upd (M 5) k ac)) 6 (upd (upd (M 6) 1 ((M 6 1) &&& (((1 : Int32) <<< ((nI k) &&& 31)) ^^^ (-1)))) 2 ((M 6 2) &&& (((1 : Int32) <<< ((nI k) &&& 31)) ^^^ (-1)))) := (by simp only [f2_setReads_M])
  have hP9 : va_P D vwCl ((wM am C (f2_setReads_M M k al ac))) H := by rw [hb_0]; exact hP
  have hD9 : va_D A ((wM am C (f2_setReads_M M k al ac))) := by rw [hb_0]; exact hD
  exact W.vret hx hb hr (fun t ht _ => ⟨⟨(), rfl, trivial, ⟨by rw [ht]; exact hP9, by rw [hAe]; exact hD9⟩⟩, hS.F ht⟩) hS.2.2 dX2_setReads_46

def f2_forget_M (M : Nat → Nat → Int32) (k : Nat) : Nat → Nat → Int32 := (uM (f2_setReads_M M k 0 0) 6 (upd ((f2_setReads_M M k 0 0) 6) 1 (((f2_setReads_M M k 0 0) 6 1) ||| ((1 : Int32) <<< ((nI k) &&& 31)))))
set_option maxHeartbeats 4000000 in
set_option maxRecDepth 100000 in
theorem kX2_forget (l : Launch) (D : va_G) (C : Nat → ClassId) (am : Nat → Nat) (M : Nat → Nat → Int32) (k : Nat) (sz : Nat) (hk : k < 12) : Wv l D C yX2_forget cX2_forget 2 1 [.ref (am 0), .int (nI k)] (wM am C M) ((wM am C (f2_forget_M M k))) sz := by
  refine Met.ofW (cc := cX2_forget) (maxL := 2) (ret := none) (by decide) rfl ?_
  intro p e s m args below meth c s₁ B hml hv
  obtain ⟨rfl, hsz, hP, hK, hNw, hD0⟩ := hv
  have hx := B.exec
  have hb := B.bytes
  have hr := B.returns
  have hts := atoms_spec (ws := wm yX2_forget cX2_forget 2 none) B.pre
  have hown : s.vm.findClass RX2 = some m.cls := findClass_of_methodNamed B.named
  have hlocks := B.notSynchronized
  have hW : ∀ w ∈ WA, w.before _ s = true := fun w h => hts w (List.mem_cons_of_mem _ h)
  subst hsz
  have hD := hD0.self (sz := s.heap.size)
  generalize hAe : va_A (wM am C M) s.heap.size = A at hD ⊢
  have hA : ∀ q : Nat, s.heap.size ≤ q → A q := fun q h => by rw [← hAe]; exact Or.inr h
  have hS : va_S A s.heap s.heap [] := va_S.rf
  have hP : va_P D vwCl [((am 0), .inr (2, [.ref (am 1), .ref (am 2), .ref (am 3), .ref (am 4), .ref (am 5), .int (M 6 0), .int (M 6 1), .int (M 6 2)])), ((am 1), eI C 12 (M 0)), ((am 2), eI C 12 (M 1)), ((am 3), eI C 12 (M 2)), ((am 4), eI C 12 (M 3)), ((am 5), eII C 2 (rr am 6 2)), ((am 6), eI C 12 (M 4)), ((am 7), eI C 12 (M 5))] s.heap := hP
  have hD : va_D A [((am 0), .inr (2, [.ref (am 1), .ref (am 2), .ref (am 3), .ref (am 4), .ref (am 5), .int (M 6 0), .int (M 6 1), .int (M 6 2)])), ((am 1), eI C 12 (M 0)), ((am 2), eI C 12 (M 1)), ((am 3), eI C 12 (M 2)), ((am 4), eI C 12 (M 3)), ((am 5), eII C 2 (rr am 6 2)), ((am 6), eI C 12 (M 4)), ((am 7), eI C 12 (M 5))] := hD
  have hl := lv_entry ([.ref (am 0), .int (nI k)]) (n := 2) (Nat.le_of_ble_eq_true rfl)
  rw [lg_entry_eq]
  generalize (lg_sl ([.ref (am 0), .int (nI k)]) ++ List.replicate (2 - (lg_sl ([.ref (am 0), .int (nI k)])).length) Slot.unset).toArray = ls at hl ⊢
  have hl : lv_has ls 2 [(0, .ref (am 0)), (1, .int (nI k))] := hl
  refine lv_aload_n hx hb dX2_forget_0 rfl (lv_at hl 0 rfl) ?_
  refine lv_iload_n hx hb dX2_forget_1 rfl (lv_at hl 1 rfl) ?_
  refine lv_iconst (v := 0) hx hb dX2_forget_2 (by decide) ?_
  refine lv_iconst (v := 0) hx hb dX2_forget_3 (by decide) ?_
  refine xwv (wr := []) (rV (As := [.int (nI k), .int 0, .int 0]) (n := 3) (rest := []) ⟨hx, hb, hml, hown, hW⟩ (kX2_setReads l D C am M k 0 0 s.heap.size (by omega)) (wa tw278 rfl) (wa tw290 rfl) (wa tw277 rfl) (was ts2 rfl) (wa tw2 rfl) (by decide +kernel) ⟨Nat.le_of_ble_eq_true rfl, Nat.le_of_ble_eq_true rfl⟩ (pVw hP hD hK hNw 0 rfl rfl) hl.1 rfl (Nat.le_of_ble_eq_true rfl) dX2_forget_4 ⟨Nat.le_of_ble_eq_true rfl, Nat.le_of_ble_eq_true rfl⟩ rfl rfl rfl) hP hD hS hA [0, 1, 2, 3, 4, 5, 6, 7] [] rfl rfl (by decide) (by decide) (fun H locs hP hD hS => ?_)
  have hP : va_P D vwCl [((am 0), .inr (2, [.ref (am 1), .ref (am 2), .ref (am 3), .ref (am 4), .ref (am 5), .int ((f2_setReads_M M k 0 0) 6 0), .int ((f2_setReads_M M k 0 0) 6 1), .int ((f2_setReads_M M k 0 0) 6 2)])), ((am 1), eI C 12 ((f2_setReads_M M k 0 0) 0)), ((am 2), eI C 12 ((f2_setReads_M M k 0 0) 1)), ((am 3), eI C 12 ((f2_setReads_M M k 0 0) 2)), ((am 4), eI C 12 ((f2_setReads_M M k 0 0) 3)), ((am 5), eII C 2 (rr am 6 2)), ((am 6), eI C 12 ((f2_setReads_M M k 0 0) 4)), ((am 7), eI C 12 ((f2_setReads_M M k 0 0) 5))] H := hP
  have hD : va_D A [((am 0), .inr (2, [.ref (am 1), .ref (am 2), .ref (am 3), .ref (am 4), .ref (am 5), .int ((f2_setReads_M M k 0 0) 6 0), .int ((f2_setReads_M M k 0 0) 6 1), .int ((f2_setReads_M M k 0 0) 6 2)])), ((am 1), eI C 12 ((f2_setReads_M M k 0 0) 0)), ((am 2), eI C 12 ((f2_setReads_M M k 0 0) 1)), ((am 3), eI C 12 ((f2_setReads_M M k 0 0) 2)), ((am 4), eI C 12 ((f2_setReads_M M k 0 0) 3)), ((am 5), eII C 2 (rr am 6 2)), ((am 6), eI C 12 ((f2_setReads_M M k 0 0) 4)), ((am 7), eI C 12 ((f2_setReads_M M k 0 0) 5))] := hD
  refine lv_aload_n hx hb dX2_forget_7 rfl (lv_at hl 0 rfl) ?_
  refine lv_dup hx hb dX2_forget_8 rfl ?_
  refine va_get (D := D) (ci := 2) (C := RX2) (T := TX2) (N := 8) hx hb hW inX2 hown hK hP 0 rfl rfl 6 (by decide) (hW _ (wa tw43 rfl)) (fun _ h9 => h9) rfl dX2_forget_9 ?_
  refine lv_iconst (v := 1) hx hb dX2_forget_12 (by decide) ?_
  refine lv_iload_n hx hb dX2_forget_13 rfl (lv_at hl 1 rfl) ?_
  refine lv_ishl hx hb dX2_forget_14 ?_
  refine lv_ior hx hb dX2_forget_15 ?_
  refine va_put (D := D) (v := .int (((f2_setReads_M M k 0 0) 6 1) ||| ((1 : Int32) <<< ((nI k) &&& 31)))) (ty := .int) (ci := 2) (C := RX2) (T := TX2) (N := 8) hx hb hW inX2 tyX2 tyX2_ok nmX2 hown hK hP hD hS 0 rfl rfl 6 (by decide) (hW _ (wa tw43 rfl)) (fun _ h9 => h9) rfl (by decide +kernel) rfl rfl (Nat.le_of_ble_eq_true rfl) dX2_forget_16 (fun H locs hP hD hS => ?_)
  have hP : va_P D vwCl [((am 0), .inr (2, [.ref (am 1), .ref (am 2), .ref (am 3), .ref (am 4), .ref (am 5), .int ((f2_setReads_M M k 0 0) 6 0), .int (((f2_setReads_M M k 0 0) 6 1) ||| ((1 : Int32) <<< ((nI k) &&& 31))), .int ((f2_setReads_M M k 0 0) 6 2)])), ((am 1), eI C 12 ((f2_setReads_M M k 0 0) 0)), ((am 2), eI C 12 ((f2_setReads_M M k 0 0) 1)), ((am 3), eI C 12 ((f2_setReads_M M k 0 0) 2)), ((am 4), eI C 12 ((f2_setReads_M M k 0 0) 3)), ((am 5), eII C 2 (rr am 6 2)), ((am 6), eI C 12 ((f2_setReads_M M k 0 0) 4)), ((am 7), eI C 12 ((f2_setReads_M M k 0 0) 5))] H := hP
  have hD : va_D A [((am 0), .inr (2, [.ref (am 1), .ref (am 2), .ref (am 3), .ref (am 4), .ref (am 5), .int ((f2_setReads_M M k 0 0) 6 0), .int (((f2_setReads_M M k 0 0) 6 1) ||| ((1 : Int32) <<< ((nI k) &&& 31))), .int ((f2_setReads_M M k 0 0) 6 2)])), ((am 1), eI C 12 ((f2_setReads_M M k 0 0) 0)), ((am 2), eI C 12 ((f2_setReads_M M k 0 0) 1)), ((am 3), eI C 12 ((f2_setReads_M M k 0 0) 2)), ((am 4), eI C 12 ((f2_setReads_M M k 0 0) 3)), ((am 5), eII C 2 (rr am 6 2)), ((am 6), eI C 12 ((f2_setReads_M M k 0 0) 4)), ((am 7), eI C 12 ((f2_setReads_M M k 0 0) 5))] := hD
  have hb_0 : (f2_forget_M M k) = uM (f2_setReads_M M k 0 0) 6 (upd ((f2_setReads_M M k 0 0) 6) 1 (((f2_setReads_M M k 0 0) 6 1) ||| ((1 : Int32) <<< ((nI k) &&& 31)))) := (by simp only [f2_forget_M])
  have hP9 : va_P D vwCl ((wM am C (f2_forget_M M k))) H := by rw [hb_0]; exact hP
  have hD9 : va_D A ((wM am C (f2_forget_M M k))) := by rw [hb_0]; exact hD
  exact W.vret hx hb hr (fun t ht _ => ⟨⟨(), rfl, trivial, ⟨by rw [ht]; exact hP9, by rw [hAe]; exact hD9⟩⟩, hS.F ht⟩) hS.2.2 dX2_forget_19

def f2_notLost (M : Nat → Nat → Int32) : Int32 := ((((1 : Int32) <<< ((M 6 0) &&& 31)) - 1) &&& ((M 6 1) ^^^ (-1)))
set_option maxHeartbeats 4000000 in
set_option maxRecDepth 100000 in
theorem kX2_notLost (l : Launch) (D : va_G) (C : Nat → ClassId) (am : Nat → Nat) (M : Nat → Nat → Int32)   : Ri l D C yX2_notLost cX2_notLost 1 .int 0 [.ref (am 0)] (wM am C M) (f2_notLost M) := by
  refine Met.ofW (cc := cX2_notLost) (maxL := 1) (ret := (some .int)) (by decide) rfl ?_
  intro p e s m args below meth c s₁ B hml hv
  obtain ⟨rfl, hP, hK, hNw⟩ := hv
  have hx := B.exec
  have hb := B.bytes
  have hr := B.returns
  have hts := atoms_spec (ws := wm yX2_notLost cX2_notLost 1 (some .int)) B.pre
  have hown : s.vm.findClass RX2 = some m.cls := findClass_of_methodNamed B.named
  have hlocks := B.notSynchronized
  have hW : ∀ w ∈ WA, w.before _ s = true := fun w h => hts w (List.mem_cons_of_mem _ h)
  have hP : va_P D vwCl [((am 0), .inr (2, [.ref (am 1), .ref (am 2), .ref (am 3), .ref (am 4), .ref (am 5), .int (M 6 0), .int (M 6 1), .int (M 6 2)])), ((am 1), eI C 12 (M 0)), ((am 2), eI C 12 (M 1)), ((am 3), eI C 12 (M 2)), ((am 4), eI C 12 (M 3)), ((am 5), eII C 2 (rr am 6 2)), ((am 6), eI C 12 (M 4)), ((am 7), eI C 12 (M 5))] s.heap := hP
  have hl := lv_entry ([.ref (am 0)]) (n := 1) (Nat.le_of_ble_eq_true rfl)
  rw [lg_entry_eq]
  generalize (lg_sl ([.ref (am 0)]) ++ List.replicate (1 - (lg_sl ([.ref (am 0)])).length) Slot.unset).toArray = ls at hl ⊢
  have hl : lv_has ls 1 [(0, .ref (am 0))] := hl
  refine lv_iconst (v := 1) hx hb dX2_notLost_0 (by decide) ?_
  refine lv_aload_n hx hb dX2_notLost_1 rfl (lv_at hl 0 rfl) ?_
  refine va_get (D := D) (ci := 2) (C := RX2) (T := TX2) (N := 8) hx hb hW inX2 hown hK hP 0 rfl rfl 5 (by decide) (hW _ (wa tw39 rfl)) (fun _ h9 => h9) rfl dX2_notLost_2 ?_
  refine lv_ishl hx hb dX2_notLost_5 ?_
  refine lv_iconst (v := 1) hx hb dX2_notLost_6 (by decide) ?_
  refine lv_isub hx hb dX2_notLost_7 ?_
  refine lv_aload_n hx hb dX2_notLost_8 rfl (lv_at hl 0 rfl) ?_
  refine va_get (D := D) (ci := 2) (C := RX2) (T := TX2) (N := 8) hx hb hW inX2 hown hK hP 0 rfl rfl 6 (by decide) (hW _ (wa tw43 rfl)) (fun _ h9 => h9) rfl dX2_notLost_9 ?_
  refine lv_iconst (v := (-1)) hx hb dX2_notLost_12 (by decide) ?_
  refine lv_ixor hx hb dX2_notLost_13 ?_
  refine lv_iand hx hb dX2_notLost_14 ?_
  exact W.iret (v := (((1 : Int32) <<< ((M 6 0) &&& 31)) - 1) &&& ((M 6 1) ^^^ (-1))) hx hb hr (fun t ht _ => ⟨_, rfl, (by simp only [f2_notLost]), ht⟩) (fun q h => by cases h) dX2_notLost_15

def f2_counting (M : Nat → Nat → Int32) : Int32 := ((f2_notLost M) &&& ((M 6 2) ^^^ (-1)))
set_option maxHeartbeats 4000000 in
set_option maxRecDepth 100000 in
theorem kX2_counting (l : Launch) (D : va_G) (C : Nat → ClassId) (am : Nat → Nat) (M : Nat → Nat → Int32)   : Ri l D C yX2_counting cX2_counting 1 .int 1 [.ref (am 0)] (wM am C M) (f2_counting M) := by
  refine Met.ofW (cc := cX2_counting) (maxL := 1) (ret := (some .int)) (by decide) rfl ?_
  intro p e s m args below meth c s₁ B hml hv
  obtain ⟨rfl, hP, hK, hNw⟩ := hv
  have hx := B.exec
  have hb := B.bytes
  have hr := B.returns
  have hts := atoms_spec (ws := wm yX2_counting cX2_counting 1 (some .int)) B.pre
  have hown : s.vm.findClass RX2 = some m.cls := findClass_of_methodNamed B.named
  have hlocks := B.notSynchronized
  have hW : ∀ w ∈ WA, w.before _ s = true := fun w h => hts w (List.mem_cons_of_mem _ h)
  have hP : va_P D vwCl [((am 0), .inr (2, [.ref (am 1), .ref (am 2), .ref (am 3), .ref (am 4), .ref (am 5), .int (M 6 0), .int (M 6 1), .int (M 6 2)])), ((am 1), eI C 12 (M 0)), ((am 2), eI C 12 (M 1)), ((am 3), eI C 12 (M 2)), ((am 4), eI C 12 (M 3)), ((am 5), eII C 2 (rr am 6 2)), ((am 6), eI C 12 (M 4)), ((am 7), eI C 12 (M 5))] s.heap := hP
  have hl := lv_entry ([.ref (am 0)]) (n := 1) (Nat.le_of_ble_eq_true rfl)
  rw [lg_entry_eq]
  generalize (lg_sl ([.ref (am 0)]) ++ List.replicate (1 - (lg_sl ([.ref (am 0)])).length) Slot.unset).toArray = ls at hl ⊢
  have hl : lv_has ls 1 [(0, .ref (am 0))] := hl
  refine lv_aload_n hx hb dX2_counting_0 rfl (lv_at hl 0 rfl) ?_
  refine xri (r := f2_notLost M) (rV (As := []) (n := 0) (rest := []) ⟨hx, hb, hml, hown, hW⟩ (kX2_notLost l D C am M  ) (wa tw312 rfl) (wa tw309 rfl) (wa tw311 rfl) (was ts5 rfl) (wa tw2 rfl) (by decide +kernel) ⟨Nat.le_of_ble_eq_true rfl, Nat.le_of_ble_eq_true rfl⟩ (pVr hP hK hNw 0 rfl rfl) hl.1 rfl (Nat.le_of_ble_eq_true rfl) dX2_counting_1 ⟨Nat.le_of_ble_eq_true rfl, Nat.le_of_ble_eq_true rfl⟩ rfl rfl rfl) ?_
  refine lv_aload_n hx hb dX2_counting_4 rfl (lv_at hl 0 rfl) ?_
  refine va_get (D := D) (ci := 2) (C := RX2) (T := TX2) (N := 8) hx hb hW inX2 hown hK hP 0 rfl rfl 7 (by decide) (hW _ (wa tw45 rfl)) (fun _ h9 => h9) rfl dX2_counting_5 ?_
  refine lv_iconst (v := (-1)) hx hb dX2_counting_8 (by decide) ?_
  refine lv_ixor hx hb dX2_counting_9 ?_
  refine lv_iand hx hb dX2_counting_10 ?_
  exact W.iret (v := (f2_notLost M) &&& ((M 6 2) ^^^ (-1))) hx hb hr (fun t ht _ => ⟨_, rfl, (by simp only [f2_counting]), ht⟩) (fun q h => by cases h) dX2_counting_11

def f2_second (M : Nat → Nat → Int32) (model : Int32) (k : Nat) : Int32 := (if model = 1 then ((M 0) k) else (if model = 2 then ((M 2) k) else (0)))
set_option maxHeartbeats 4000000 in
set_option maxRecDepth 100000 in
theorem kX2_secondTerm (l : Launch) (D : va_G) (C : Nat → ClassId) (am : Nat → Nat) (M : Nat → Nat → Int32) (model : Int32) (k : Nat) (hk : k < 12) : Ri l D C yX2_secondTerm cX2_secondTerm 3 .int 0 [.ref (am 0), .int model, .int (nI k)] (wM am C M) (f2_second M model k) := by
  refine Met.ofW (cc := cX2_secondTerm) (maxL := 3) (ret := (some .int)) (by decide) rfl ?_
  intro p e s m args below meth c s₁ B hml hv
  obtain ⟨rfl, hP, hK, hNw⟩ := hv
  have hx := B.exec
  have hb := B.bytes
  have hr := B.returns
  have hts := atoms_spec (ws := wm yX2_secondTerm cX2_secondTerm 3 (some .int)) B.pre
  have hown : s.vm.findClass RX2 = some m.cls := findClass_of_methodNamed B.named
  have hlocks := B.notSynchronized
  have hW : ∀ w ∈ WA, w.before _ s = true := fun w h => hts w (List.mem_cons_of_mem _ h)
  have hP : va_P D vwCl [((am 0), .inr (2, [.ref (am 1), .ref (am 2), .ref (am 3), .ref (am 4), .ref (am 5), .int (M 6 0), .int (M 6 1), .int (M 6 2)])), ((am 1), eI C 12 (M 0)), ((am 2), eI C 12 (M 1)), ((am 3), eI C 12 (M 2)), ((am 4), eI C 12 (M 3)), ((am 5), eII C 2 (rr am 6 2)), ((am 6), eI C 12 (M 4)), ((am 7), eI C 12 (M 5))] s.heap := hP
  have hl := lv_entry ([.ref (am 0), .int model, .int (nI k)]) (n := 3) (Nat.le_of_ble_eq_true rfl)
  rw [lg_entry_eq]
  generalize (lg_sl ([.ref (am 0), .int model, .int (nI k)]) ++ List.replicate (3 - (lg_sl ([.ref (am 0), .int model, .int (nI k)])).length) Slot.unset).toArray = ls at hl ⊢
  have hl : lv_has ls 3 [(0, .ref (am 0)), (1, .int model), (2, .int (nI k))] := hl
  refine lv_iload_n hx hb dX2_secondTerm_0 rfl (lv_at hl 1 rfl) ?_
  refine lv_iconst (v := 1) hx hb dX2_secondTerm_1 (by decide) ?_
  refine lv_icmp_ne (tgt := 14) hx hb dX2_secondTerm_2 (by decide) (fun c_1 => ?_) (fun c_1 => ?_)
  · refine lv_iload_n hx hb dX2_secondTerm_14 rfl (lv_at hl 1 rfl) ?_
    refine lv_iconst (v := 2) hx hb dX2_secondTerm_15 (by decide) ?_
    refine lv_icmp_ne (tgt := 28) hx hb dX2_secondTerm_16 (by decide) (fun c_2 => ?_) (fun c_2 => ?_)
    · refine lv_iconst (v := 0) hx hb dX2_secondTerm_28 (by decide) ?_
      exact W.iret (v := 0) hx hb hr (fun t ht _ => ⟨_, rfl, (by simp only [f2_second, if_neg c_1, if_neg c_2]), ht⟩) (fun q h => by cases h) dX2_secondTerm_29
    · refine lv_aload_n hx hb dX2_secondTerm_19 rfl (lv_at hl 0 rfl) ?_
      refine va_get (D := D) (ci := 2) (C := RX2) (T := TX2) (N := 8) hx hb hW inX2 hown hK hP 0 rfl rfl 2 (by decide) (hW _ (wa tw32 rfl)) (fun _ h9 => h9) rfl dX2_secondTerm_20 ?_
      refine lv_iload_n hx hb dX2_secondTerm_23 rfl (lv_at hl 2 rfl) ?_
      refine xiald hx hb hK hP 3 rfl k rfl (by omega) (by decide) dX2_secondTerm_24 ?_
      refine lv_goto (tgt := 29) hx hb dX2_secondTerm_25 (by decide) ?_
      exact W.iret (v := (M 2) k) hx hb hr (fun t ht _ => ⟨_, rfl, (by simp only [f2_second, if_neg c_1, if_pos c_2]), ht⟩) (fun q h => by cases h) dX2_secondTerm_29
  · refine lv_aload_n hx hb dX2_secondTerm_5 rfl (lv_at hl 0 rfl) ?_
    refine va_get (D := D) (ci := 2) (C := RX2) (T := TX2) (N := 8) hx hb hW inX2 hown hK hP 0 rfl rfl 0 (by decide) (hW _ (wa tw28 rfl)) (fun _ h9 => h9) rfl dX2_secondTerm_6 ?_
    refine lv_iload_n hx hb dX2_secondTerm_9 rfl (lv_at hl 2 rfl) ?_
    refine xiald hx hb hK hP 1 rfl k rfl (by omega) (by decide) dX2_secondTerm_10 ?_
    refine lv_goto (tgt := 29) hx hb dX2_secondTerm_11 (by decide) ?_
    exact W.iret (v := (M 0) k) hx hb hr (fun t ht _ => ⟨_, rfl, (by simp only [f2_second, if_pos c_1]), ht⟩) (fun q h => by cases h) dX2_secondTerm_29

def f2_third (M : Nat → Nat → Int32) (model : Int32) (k : Nat) : Int32 := (if model = 1 then ((M 1) k) else (if model = 2 then ((M 3) k) else (0)))
set_option maxHeartbeats 4000000 in
set_option maxRecDepth 100000 in
theorem kX2_thirdTerm (l : Launch) (D : va_G) (C : Nat → ClassId) (am : Nat → Nat) (M : Nat → Nat → Int32) (model : Int32) (k : Nat) (hk : k < 12) : Ri l D C yX2_thirdTerm cX2_thirdTerm 3 .int 0 [.ref (am 0), .int model, .int (nI k)] (wM am C M) (f2_third M model k) := by
  refine Met.ofW (cc := cX2_thirdTerm) (maxL := 3) (ret := (some .int)) (by decide) rfl ?_
  intro p e s m args below meth c s₁ B hml hv
  obtain ⟨rfl, hP, hK, hNw⟩ := hv
  have hx := B.exec
  have hb := B.bytes
  have hr := B.returns
  have hts := atoms_spec (ws := wm yX2_thirdTerm cX2_thirdTerm 3 (some .int)) B.pre
  have hown : s.vm.findClass RX2 = some m.cls := findClass_of_methodNamed B.named
  have hlocks := B.notSynchronized
  have hW : ∀ w ∈ WA, w.before _ s = true := fun w h => hts w (List.mem_cons_of_mem _ h)
  have hP : va_P D vwCl [((am 0), .inr (2, [.ref (am 1), .ref (am 2), .ref (am 3), .ref (am 4), .ref (am 5), .int (M 6 0), .int (M 6 1), .int (M 6 2)])), ((am 1), eI C 12 (M 0)), ((am 2), eI C 12 (M 1)), ((am 3), eI C 12 (M 2)), ((am 4), eI C 12 (M 3)), ((am 5), eII C 2 (rr am 6 2)), ((am 6), eI C 12 (M 4)), ((am 7), eI C 12 (M 5))] s.heap := hP
  have hl := lv_entry ([.ref (am 0), .int model, .int (nI k)]) (n := 3) (Nat.le_of_ble_eq_true rfl)
  rw [lg_entry_eq]
  generalize (lg_sl ([.ref (am 0), .int model, .int (nI k)]) ++ List.replicate (3 - (lg_sl ([.ref (am 0), .int model, .int (nI k)])).length) Slot.unset).toArray = ls at hl ⊢
  have hl : lv_has ls 3 [(0, .ref (am 0)), (1, .int model), (2, .int (nI k))] := hl
  refine lv_iload_n hx hb dX2_thirdTerm_0 rfl (lv_at hl 1 rfl) ?_
  refine lv_iconst (v := 1) hx hb dX2_thirdTerm_1 (by decide) ?_
  refine lv_icmp_ne (tgt := 14) hx hb dX2_thirdTerm_2 (by decide) (fun c_1 => ?_) (fun c_1 => ?_)
  · refine lv_iload_n hx hb dX2_thirdTerm_14 rfl (lv_at hl 1 rfl) ?_
    refine lv_iconst (v := 2) hx hb dX2_thirdTerm_15 (by decide) ?_
    refine lv_icmp_ne (tgt := 28) hx hb dX2_thirdTerm_16 (by decide) (fun c_2 => ?_) (fun c_2 => ?_)
    · refine lv_iconst (v := 0) hx hb dX2_thirdTerm_28 (by decide) ?_
      exact W.iret (v := 0) hx hb hr (fun t ht _ => ⟨_, rfl, (by simp only [f2_third, if_neg c_1, if_neg c_2]), ht⟩) (fun q h => by cases h) dX2_thirdTerm_29
    · refine lv_aload_n hx hb dX2_thirdTerm_19 rfl (lv_at hl 0 rfl) ?_
      refine va_get (D := D) (ci := 2) (C := RX2) (T := TX2) (N := 8) hx hb hW inX2 hown hK hP 0 rfl rfl 3 (by decide) (hW _ (wa tw34 rfl)) (fun _ h9 => h9) rfl dX2_thirdTerm_20 ?_
      refine lv_iload_n hx hb dX2_thirdTerm_23 rfl (lv_at hl 2 rfl) ?_
      refine xiald hx hb hK hP 4 rfl k rfl (by omega) (by decide) dX2_thirdTerm_24 ?_
      refine lv_goto (tgt := 29) hx hb dX2_thirdTerm_25 (by decide) ?_
      exact W.iret (v := (M 3) k) hx hb hr (fun t ht _ => ⟨_, rfl, (by simp only [f2_third, if_neg c_1, if_pos c_2]), ht⟩) (fun q h => by cases h) dX2_thirdTerm_29
  · refine lv_aload_n hx hb dX2_thirdTerm_5 rfl (lv_at hl 0 rfl) ?_
    refine va_get (D := D) (ci := 2) (C := RX2) (T := TX2) (N := 8) hx hb hW inX2 hown hK hP 0 rfl rfl 1 (by decide) (hW _ (wa tw30 rfl)) (fun _ h9 => h9) rfl dX2_thirdTerm_6 ?_
    refine lv_iload_n hx hb dX2_thirdTerm_9 rfl (lv_at hl 2 rfl) ?_
    refine xiald hx hb hK hP 2 rfl k rfl (by omega) (by decide) dX2_thirdTerm_10 ?_
    refine lv_goto (tgt := 29) hx hb dX2_thirdTerm_11 (by decide) ?_
    exact W.iret (v := (M 1) k) hx hb hr (fun t ht _ => ⟨_, rfl, (by simp only [f2_third, if_pos c_1]), ht⟩) (fun q h => by cases h) dX2_thirdTerm_29

def heL (M : Nat → Nat → Int32) (set : Int32) (j : Nat) : Nat → Nat → Int32
  | 0, _ => 0
  | n + 1, k => if f6_isIn set (nI k) = 0 then heL M set j n (k + 1) else if M 0 k = M 0 j then (if M 1 k = M 1 j then 1 else heL M set j n (k + 1)) else heL M set j n (k + 1)
def f2_earlier (M : Nat → Nat → Int32) (set : Int32) (j : Nat) : Int32 := heL M set j j 0

set_option maxHeartbeats 4000000 in
set_option maxRecDepth 100000 in
theorem kX2_hasEarlierOfField (l : Launch) (D : va_G) (C : Nat → ClassId) (am : Nat → Nat) (M : Nat → Nat → Int32) (set : Int32) (j : Nat) (hj : j < 12) : Ri l D C yX2_hasEarlierOfField cX2_hasEarlierOfField 4 .boolean 1 [.ref (am 0), .int set, .int (nI j)] (wM am C M) (f2_earlier M set j) := by
  refine Met.ofW (cc := cX2_hasEarlierOfField) (maxL := 4) (ret := (some .boolean)) (by decide) rfl ?_
  intro p e s m args below meth c s₁ B hml hv
  obtain ⟨rfl, hP, hK, hNw⟩ := hv
  have hx := B.exec
  have hb := B.bytes
  have hr := B.returns
  have hts := atoms_spec (ws := wm yX2_hasEarlierOfField cX2_hasEarlierOfField 4 (some .boolean)) B.pre
  have hown : s.vm.findClass RX2 = some m.cls := findClass_of_methodNamed B.named
  have hlocks := B.notSynchronized
  have hW : ∀ w ∈ WA, w.before _ s = true := fun w h => hts w (List.mem_cons_of_mem _ h)
  have hP : va_P D vwCl [((am 0), .inr (2, [.ref (am 1), .ref (am 2), .ref (am 3), .ref (am 4), .ref (am 5), .int (M 6 0), .int (M 6 1), .int (M 6 2)])), ((am 1), eI C 12 (M 0)), ((am 2), eI C 12 (M 1)), ((am 3), eI C 12 (M 2)), ((am 4), eI C 12 (M 3)), ((am 5), eII C 2 (rr am 6 2)), ((am 6), eI C 12 (M 4)), ((am 7), eI C 12 (M 5))] s.heap := hP
  have hl := lv_entry ([.ref (am 0), .int set, .int (nI j)]) (n := 4) (Nat.le_of_ble_eq_true rfl)
  rw [lg_entry_eq]
  generalize (lg_sl ([.ref (am 0), .int set, .int (nI j)]) ++ List.replicate (4 - (lg_sl ([.ref (am 0), .int set, .int (nI j)])).length) Slot.unset).toArray = ls at hl ⊢
  have hl : lv_has ls 4 [(0, .ref (am 0)), (1, .int set), (2, .int (nI j))] := hl
  refine lv_iconst (v := 0) hx hb dX2_hasEarlierOfField_0 (by decide) ?_
  refine lv_istore_n (lv' := [(3, .int 0), (0, .ref (am 0)), (1, .int set), (2, .int (nI j))]) hx hb dX2_hasEarlierOfField_1 rfl hl (by decide) rfl (fun ls hl => ?_)
  obtain ⟨n2, k, hinv⟩ : ∃ (n2 : Nat) (k : Nat), (k + n2 = j) ∧ (heL M set j n2 k = f2_earlier M set j) ∧ lv_has ls 4 [(0, .ref (am 0)), (1, .int set), (2, .int (nI j)), (3, .int (nI k))] := ⟨j, 0, by omega, rfl, lv_sub hl [1, 2, 3, 0] rfl⟩
  clear hl
  induction n2 generalizing k ls with
  | zero =>
    obtain ⟨h2_0, h2_1, hl⟩ := hinv
    refine lv_iload_n hx hb dX2_hasEarlierOfField_2 rfl (lv_at hl 3 rfl) ?_
    refine lv_iload_n hx hb dX2_hasEarlierOfField_3 rfl (lv_at hl 2 rfl) ?_
    refine lv_icmp_ge (tgt := 53) hx hb dX2_hasEarlierOfField_4 (by decide) (fun c_1 => ?_) (fun c_1 => ?_)
    · refine lv_iconst (v := 0) hx hb dX2_hasEarlierOfField_53 (by decide) ?_
      exact W.zret (v := 0) hx hb hr rfl (fun t ht _ => ⟨_, rfl, h2_1, ht⟩) (fun q h => by cases h) dX2_hasEarlierOfField_54
    · exact absurd (q_le rfl rfl (by omega) (by omega)) c_1
  | succ n2 ih2 =>
    obtain ⟨h2_0, h2_1, hl⟩ := hinv
    refine lv_iload_n hx hb dX2_hasEarlierOfField_2 rfl (lv_at hl 3 rfl) ?_
    refine lv_iload_n hx hb dX2_hasEarlierOfField_3 rfl (lv_at hl 2 rfl) ?_
    refine lv_icmp_ge (tgt := 53) hx hb dX2_hasEarlierOfField_4 (by decide) (fun c_2 => ?_) (fun c_2 => ?_)
    · exact absurd c_2 (q_nle rfl rfl (by omega) (by omega))
    · refine lv_iload_n hx hb dX2_hasEarlierOfField_7 rfl (lv_at hl 1 rfl) ?_
      refine lv_iload_n hx hb dX2_hasEarlierOfField_8 rfl (lv_at hl 3 rfl) ?_
      refine xri (r := f6_isIn set (nI k)) (rSN (As := [.int set, .int (nI k)]) (n := 2) (rest := []) ⟨hx, hb, hml, hown, hW⟩ (kX6_isIn l set (nI k)) (wa tw285 rfl) (hNw _ tw321 rfl) (wa tw284 rfl) (wa tw1 rfl) (by decide +kernel) ⟨Nat.le_of_ble_eq_true rfl, Nat.le_of_ble_eq_true rfl⟩ pS0 hl.1 rfl (Nat.le_of_ble_eq_true rfl) dX2_hasEarlierOfField_9 ⟨Nat.le_of_ble_eq_true rfl, Nat.le_of_ble_eq_true rfl⟩ rfl rfl rfl) ?_
      refine lv_if_eq (tgt := 47) hx hb dX2_hasEarlierOfField_12 (by decide) (fun c_3 => ?_) (fun c_3 => ?_)
      · refine lv_iinc (v := nI k + 1) (lv' := [(3, .int (nI k + 1)), (0, .ref (am 0)), (1, .int set), (2, .int (nI j))]) hx hb dX2_hasEarlierOfField_47 hl (k := 3) rfl rfl (by decide) rfl (fun ls hl => ?_)
        refine lv_goto (tgt := 2) hx hb dX2_hasEarlierOfField_50 (by decide) ?_
        rw [nI_1] at hl
        exact ih2 (k := k + 1) (ls := ls) ⟨by omega, by rw [← h2_1, heL]; simp only [if_pos c_3], lv_sub hl [1, 2, 3, 0] rfl⟩
      · refine lv_aload_n hx hb dX2_hasEarlierOfField_15 rfl (lv_at hl 0 rfl) ?_
        refine va_get (D := D) (ci := 2) (C := RX2) (T := TX2) (N := 8) hx hb hW inX2 hown hK hP 0 rfl rfl 0 (by decide) (hW _ (wa tw28 rfl)) (fun _ h9 => h9) rfl dX2_hasEarlierOfField_16 ?_
        refine lv_iload_n hx hb dX2_hasEarlierOfField_19 rfl (lv_at hl 3 rfl) ?_
        refine xiald hx hb hK hP 1 rfl k rfl (by omega) (by decide) dX2_hasEarlierOfField_20 ?_
        refine lv_aload_n hx hb dX2_hasEarlierOfField_21 rfl (lv_at hl 0 rfl) ?_
        refine va_get (D := D) (ci := 2) (C := RX2) (T := TX2) (N := 8) hx hb hW inX2 hown hK hP 0 rfl rfl 0 (by decide) (hW _ (wa tw28 rfl)) (fun _ h9 => h9) rfl dX2_hasEarlierOfField_22 ?_
        refine lv_iload_n hx hb dX2_hasEarlierOfField_25 rfl (lv_at hl 2 rfl) ?_
        refine xiald hx hb hK hP 1 rfl j rfl (by omega) (by decide) dX2_hasEarlierOfField_26 ?_
        refine lv_icmp_ne (tgt := 47) hx hb dX2_hasEarlierOfField_27 (by decide) (fun c_4 => ?_) (fun c_4 => ?_)
        · refine lv_iinc (v := nI k + 1) (lv' := [(3, .int (nI k + 1)), (0, .ref (am 0)), (1, .int set), (2, .int (nI j))]) hx hb dX2_hasEarlierOfField_47 hl (k := 3) rfl rfl (by decide) rfl (fun ls hl => ?_)
          refine lv_goto (tgt := 2) hx hb dX2_hasEarlierOfField_50 (by decide) ?_
          rw [nI_1] at hl
          exact ih2 (k := k + 1) (ls := ls) ⟨by omega, by rw [← h2_1, heL]; simp only [if_neg c_3, if_neg c_4], lv_sub hl [1, 2, 3, 0] rfl⟩
        · refine lv_aload_n hx hb dX2_hasEarlierOfField_30 rfl (lv_at hl 0 rfl) ?_
          refine va_get (D := D) (ci := 2) (C := RX2) (T := TX2) (N := 8) hx hb hW inX2 hown hK hP 0 rfl rfl 1 (by decide) (hW _ (wa tw30 rfl)) (fun _ h9 => h9) rfl dX2_hasEarlierOfField_31 ?_
          refine lv_iload_n hx hb dX2_hasEarlierOfField_34 rfl (lv_at hl 3 rfl) ?_
          refine xiald hx hb hK hP 2 rfl k rfl (by omega) (by decide) dX2_hasEarlierOfField_35 ?_
          refine lv_aload_n hx hb dX2_hasEarlierOfField_36 rfl (lv_at hl 0 rfl) ?_
          refine va_get (D := D) (ci := 2) (C := RX2) (T := TX2) (N := 8) hx hb hW inX2 hown hK hP 0 rfl rfl 1 (by decide) (hW _ (wa tw30 rfl)) (fun _ h9 => h9) rfl dX2_hasEarlierOfField_37 ?_
          refine lv_iload_n hx hb dX2_hasEarlierOfField_40 rfl (lv_at hl 2 rfl) ?_
          refine xiald hx hb hK hP 2 rfl j rfl (by omega) (by decide) dX2_hasEarlierOfField_41 ?_
          refine lv_icmp_ne (tgt := 47) hx hb dX2_hasEarlierOfField_42 (by decide) (fun c_5 => ?_) (fun c_5 => ?_)
          · refine lv_iinc (v := nI k + 1) (lv' := [(3, .int (nI k + 1)), (0, .ref (am 0)), (1, .int set), (2, .int (nI j))]) hx hb dX2_hasEarlierOfField_47 hl (k := 3) rfl rfl (by decide) rfl (fun ls hl => ?_)
            refine lv_goto (tgt := 2) hx hb dX2_hasEarlierOfField_50 (by decide) ?_
            rw [nI_1] at hl
            exact ih2 (k := k + 1) (ls := ls) ⟨by omega, by rw [← h2_1, heL]; simp only [if_neg c_3, if_pos c_4, if_neg c_5], lv_sub hl [1, 2, 3, 0] rfl⟩
          · refine lv_iconst (v := 1) hx hb dX2_hasEarlierOfField_45 (by decide) ?_
            exact W.zret (v := 1) hx hb hr rfl (fun t ht _ => ⟨_, rfl, (by rw [← h2_1, heL]; simp only [if_neg c_3, if_pos c_4, if_pos c_5]), ht⟩) (fun q h => by cases h) dX2_hasEarlierOfField_46

def fdL (M : Nat → Nat → Int32) (set : Int32) : Nat → Nat → Int32 → Int32
  | 0, _, x => x
  | n + 1, k, x => if f6_isIn set (nI k) = 0 then fdL M set n (k + 1) x else if f2_earlier M set k = 0 then fdL M set n (k + 1) (x + 1) else fdL M set n (k + 1) x
def f2_fieldsOf (M : Nat → Nat → Int32) (N : Nat) (set : Int32) : Int32 := fdL M set N 0 0

set_option maxHeartbeats 4000000 in
set_option maxRecDepth 100000 in
theorem kX2_fieldsOf (l : Launch) (D : va_G) (C : Nat → ClassId) (am : Nat → Nat) (M : Nat → Nat → Int32) (set : Int32) (N : Nat) (hN : M 6 0 = nI N) (hN12 : N ≤ 12) : Ri l D C yX2_fieldsOf cX2_fieldsOf 4 .int 2 [.ref (am 0), .int set] (wM am C M) (f2_fieldsOf M N set) := by
  refine Met.ofW (cc := cX2_fieldsOf) (maxL := 4) (ret := (some .int)) (by decide) rfl ?_
  intro p e s m args below meth c s₁ B hml hv
  obtain ⟨rfl, hP, hK, hNw⟩ := hv
  have hx := B.exec
  have hb := B.bytes
  have hr := B.returns
  have hts := atoms_spec (ws := wm yX2_fieldsOf cX2_fieldsOf 4 (some .int)) B.pre
  have hown : s.vm.findClass RX2 = some m.cls := findClass_of_methodNamed B.named
  have hlocks := B.notSynchronized
  have hW : ∀ w ∈ WA, w.before _ s = true := fun w h => hts w (List.mem_cons_of_mem _ h)
  have hP : va_P D vwCl [((am 0), .inr (2, [.ref (am 1), .ref (am 2), .ref (am 3), .ref (am 4), .ref (am 5), .int (M 6 0), .int (M 6 1), .int (M 6 2)])), ((am 1), eI C 12 (M 0)), ((am 2), eI C 12 (M 1)), ((am 3), eI C 12 (M 2)), ((am 4), eI C 12 (M 3)), ((am 5), eII C 2 (rr am 6 2)), ((am 6), eI C 12 (M 4)), ((am 7), eI C 12 (M 5))] s.heap := hP
  have hl := lv_entry ([.ref (am 0), .int set]) (n := 4) (Nat.le_of_ble_eq_true rfl)
  rw [lg_entry_eq]
  generalize (lg_sl ([.ref (am 0), .int set]) ++ List.replicate (4 - (lg_sl ([.ref (am 0), .int set])).length) Slot.unset).toArray = ls at hl ⊢
  have hl : lv_has ls 4 [(0, .ref (am 0)), (1, .int set)] := hl
  refine lv_iconst (v := 0) hx hb dX2_fieldsOf_0 (by decide) ?_
  refine lv_istore_n (lv' := [(2, .int 0), (0, .ref (am 0)), (1, .int set)]) hx hb dX2_fieldsOf_1 rfl hl (by decide) rfl (fun ls hl => ?_)
  refine lv_iconst (v := 0) hx hb dX2_fieldsOf_2 (by decide) ?_
  refine lv_istore_n (lv' := [(3, .int 0), (2, .int 0), (0, .ref (am 0)), (1, .int set)]) hx hb dX2_fieldsOf_3 rfl hl (by decide) rfl (fun ls hl => ?_)
  obtain ⟨n4, k, x, hinv⟩ : ∃ (n4 : Nat) (k : Nat) (x : Int32), (k + n4 = N) ∧ (fdL M set n4 k x = f2_fieldsOf M N set) ∧ lv_has ls 4 [(0, .ref (am 0)), (1, .int set), (2, .int x), (3, .int (nI k))] := ⟨N, 0, 0, by omega, rfl, lv_sub hl [2, 3, 1, 0] rfl⟩
  clear hl
  induction n4 generalizing k x ls with
  | zero =>
    obtain ⟨h4_0, h4_1, hl⟩ := hinv
    refine lv_iload_n hx hb dX2_fieldsOf_4 rfl (lv_at hl 3 rfl) ?_
    refine lv_aload_n hx hb dX2_fieldsOf_5 rfl (lv_at hl 0 rfl) ?_
    refine va_get (D := D) (ci := 2) (C := RX2) (T := TX2) (N := 8) hx hb hW inX2 hown hK hP 0 rfl rfl 5 (by decide) (hW _ (wa tw39 rfl)) (fun _ h9 => h9) rfl dX2_fieldsOf_6 ?_
    refine lv_icmp_ge (tgt := 38) hx hb dX2_fieldsOf_9 (by decide) (fun c_1 => ?_) (fun c_1 => ?_)
    · refine lv_iload_n hx hb dX2_fieldsOf_38 rfl (lv_at hl 2 rfl) ?_
      exact W.iret (v := x) hx hb hr (fun t ht _ => ⟨_, rfl, h4_1, ht⟩) (fun q h => by cases h) dX2_fieldsOf_39
    · exact absurd (q_le hN rfl (by omega) (by omega)) c_1
  | succ n4 ih4 =>
    obtain ⟨h4_0, h4_1, hl⟩ := hinv
    refine lv_iload_n hx hb dX2_fieldsOf_4 rfl (lv_at hl 3 rfl) ?_
    refine lv_aload_n hx hb dX2_fieldsOf_5 rfl (lv_at hl 0 rfl) ?_
    refine va_get (D := D) (ci := 2) (C := RX2) (T := TX2) (N := 8) hx hb hW inX2 hown hK hP 0 rfl rfl 5 (by decide) (hW _ (wa tw39 rfl)) (fun _ h9 => h9) rfl dX2_fieldsOf_6 ?_
    refine lv_icmp_ge (tgt := 38) hx hb dX2_fieldsOf_9 (by decide) (fun c_2 => ?_) (fun c_2 => ?_)
    · exact absurd c_2 (q_nle hN rfl (by omega) (by omega))
    · refine lv_iload_n hx hb dX2_fieldsOf_12 rfl (lv_at hl 1 rfl) ?_
      refine lv_iload_n hx hb dX2_fieldsOf_13 rfl (lv_at hl 3 rfl) ?_
      refine xri (r := f6_isIn set (nI k)) (rSN (As := [.int set, .int (nI k)]) (n := 2) (rest := []) ⟨hx, hb, hml, hown, hW⟩ (kX6_isIn l set (nI k)) (wa tw285 rfl) (hNw _ tw321 rfl) (wa tw284 rfl) (wa tw1 rfl) (by decide +kernel) ⟨Nat.le_of_ble_eq_true rfl, Nat.le_of_ble_eq_true rfl⟩ pS0 hl.1 rfl (Nat.le_of_ble_eq_true rfl) dX2_fieldsOf_14 ⟨Nat.le_of_ble_eq_true rfl, Nat.le_of_ble_eq_true rfl⟩ rfl rfl rfl) ?_
      refine lv_if_eq (tgt := 32) hx hb dX2_fieldsOf_17 (by decide) (fun c_3 => ?_) (fun c_3 => ?_)
      · refine lv_iinc (v := nI k + 1) (lv' := [(3, .int (nI k + 1)), (0, .ref (am 0)), (1, .int set), (2, .int x)]) hx hb dX2_fieldsOf_32 hl (k := 3) rfl rfl (by decide) rfl (fun ls hl => ?_)
        refine lv_goto (tgt := 4) hx hb dX2_fieldsOf_35 (by decide) ?_
        rw [nI_1] at hl
        exact ih4 (k := k + 1) (x := x) (ls := ls) ⟨by omega, by rw [← h4_1, fdL]; simp only [if_pos c_3], lv_sub hl [1, 2, 3, 0] rfl⟩
      · refine lv_aload_n hx hb dX2_fieldsOf_20 rfl (lv_at hl 0 rfl) ?_
        refine lv_iload_n hx hb dX2_fieldsOf_21 rfl (lv_at hl 1 rfl) ?_
        refine lv_iload_n hx hb dX2_fieldsOf_22 rfl (lv_at hl 3 rfl) ?_
        refine xri (r := f2_earlier M set k) (rV (As := [.int set, .int (nI k)]) (n := 2) (rest := []) ⟨hx, hb, hml, hown, hW⟩ (kX2_hasEarlierOfField l D C am M set k (by omega)) (wa tw325 rfl) (wa tw322 rfl) (wa tw324 rfl) (was ts8 rfl) (wa tw2 rfl) (by decide +kernel) ⟨Nat.le_of_ble_eq_true rfl, Nat.le_of_ble_eq_true rfl⟩ (pVr hP hK hNw 0 rfl rfl) hl.1 rfl (Nat.le_of_ble_eq_true rfl) dX2_fieldsOf_23 ⟨Nat.le_of_ble_eq_true rfl, Nat.le_of_ble_eq_true rfl⟩ rfl rfl rfl) ?_
        refine lv_if_ne (tgt := 32) hx hb dX2_fieldsOf_26 (by decide) (fun c_4 => ?_) (fun c_4 => ?_)
        · refine lv_iinc (v := nI k + 1) (lv' := [(3, .int (nI k + 1)), (0, .ref (am 0)), (1, .int set), (2, .int x)]) hx hb dX2_fieldsOf_32 hl (k := 3) rfl rfl (by decide) rfl (fun ls hl => ?_)
          refine lv_goto (tgt := 4) hx hb dX2_fieldsOf_35 (by decide) ?_
          rw [nI_1] at hl
          exact ih4 (k := k + 1) (x := x) (ls := ls) ⟨by omega, by rw [← h4_1, fdL]; simp only [if_neg c_3, if_neg c_4], lv_sub hl [1, 2, 3, 0] rfl⟩
        · refine lv_iinc (v := x + 1) (lv' := [(2, .int (x + 1)), (0, .ref (am 0)), (1, .int set), (3, .int (nI k))]) hx hb dX2_fieldsOf_29 hl (k := 2) rfl rfl (by decide) rfl (fun ls hl => ?_)
          refine lv_iinc (v := nI k + 1) (lv' := [(3, .int (nI k + 1)), (2, .int (x + 1)), (0, .ref (am 0)), (1, .int set)]) hx hb dX2_fieldsOf_32 hl (k := 3) rfl rfl (by decide) rfl (fun ls hl => ?_)
          refine lv_goto (tgt := 4) hx hb dX2_fieldsOf_35 (by decide) ?_
          rw [nI_1] at hl
          exact ih4 (k := k + 1) (x := (x + 1)) (ls := ls) ⟨by omega, by rw [← h4_1, fdL]; simp only [if_neg c_3, if_pos c_4], lv_sub hl [2, 3, 1, 0] rfl⟩
