def f0_has (Bk : Nat → Nat → Int32) (x : Int32) : Int32 := (if x < 0 then (0) else (if (Bk 8 0) ≤ x then (0) else (1)))
set_option maxHeartbeats 4000000 in
set_option maxRecDepth 100000 in
theorem kX0_has (l : Launch) (D : va_G) (C : Nat → ClassId) (ab : Nat → Nat) (Bk : Nat → Nat → Int32) (x : Int32)  : Ri l D C yX0_has cX0_has 2 .boolean 0 [.ref (ab 0), .int x] (wB ab C Bk) (f0_has Bk x) := by
  refine Met.ofW (cc := cX0_has) (maxL := 2) (ret := (some .boolean)) (by decide) rfl ?_
  intro p e s m args below meth c s₁ B hml hv
  obtain ⟨rfl, hP, hK, hNw⟩ := hv
  have hx := B.exec
  have hb := B.bytes
  have hr := B.returns
  have hts := atoms_spec (ws := wm yX0_has cX0_has 2 (some .boolean)) B.pre
  have hown : s.vm.findClass RX0 = some m.cls := findClass_of_methodNamed B.named
  have hlocks := B.notSynchronized
  have hW : ∀ w ∈ WA, w.before _ s = true := fun w h => hts w (List.mem_cons_of_mem _ h)
  have hP : va_P D vwCl [((ab 0), .inr (0, [.ref (ab 1), .ref (ab 2), .ref (ab 3), .ref (ab 4), .ref (ab 5), .int (Bk 8 0), .int (Bk 8 1)])), ((ab 1), eI C 60 (Bk 0)), ((ab 2), eI C 60 (Bk 1)), ((ab 3), eI C 60 (Bk 2)), ((ab 4), eZ C 60 (Bk 3)), ((ab 5), eII C 4 (rr ab 6 4)), ((ab 6), eI C 61 (Bk 4)), ((ab 7), eI C 61 (Bk 5)), ((ab 8), eI C 61 (Bk 6)), ((ab 9), eI C 61 (Bk 7))] s.heap := hP
  have hl := lv_entry ([.ref (ab 0), .int x]) (n := 2) (Nat.le_of_ble_eq_true rfl)
  rw [lg_entry_eq]
  generalize (lg_sl ([.ref (ab 0), .int x]) ++ List.replicate (2 - (lg_sl ([.ref (ab 0), .int x])).length) Slot.unset).toArray = ls at hl ⊢
  have hl : lv_has ls 2 [(0, .ref (ab 0)), (1, .int x)] := hl
  refine lv_iload_n hx hb dX0_has_0 rfl (lv_at hl 1 rfl) ?_
  refine lv_if_lt (tgt := 16) hx hb dX0_has_1 (by decide) (fun c_1 => ?_) (fun c_1 => ?_)
  · refine lv_iconst (v := 0) hx hb dX0_has_16 (by decide) ?_
    exact W.zret (v := 0) hx hb hr rfl (fun t ht _ => ⟨_, rfl, (by simp only [f0_has, if_pos c_1]), ht⟩) (fun q h => by cases h) dX0_has_17
  · refine lv_iload_n hx hb dX0_has_4 rfl (lv_at hl 1 rfl) ?_
    refine lv_aload_n hx hb dX0_has_5 rfl (lv_at hl 0 rfl) ?_
    refine va_get (D := D) (ci := 0) (C := RX0) (T := TX0) (N := 7) hx hb hW inX0 hown hK hP 0 rfl rfl 5 (by decide) (hW _ (wa tw183 rfl)) (fun _ h9 => h9) rfl dX0_has_6 ?_
    refine lv_icmp_ge (tgt := 16) hx hb dX0_has_9 (by decide) (fun c_2 => ?_) (fun c_2 => ?_)
    · refine lv_iconst (v := 0) hx hb dX0_has_16 (by decide) ?_
      exact W.zret (v := 0) hx hb hr rfl (fun t ht _ => ⟨_, rfl, (by simp only [f0_has, if_neg c_1, if_pos c_2]), ht⟩) (fun q h => by cases h) dX0_has_17
    · refine lv_iconst (v := 1) hx hb dX0_has_12 (by decide) ?_
      refine lv_goto (tgt := 17) hx hb dX0_has_13 (by decide) ?_
      exact W.zret (v := 1) hx hb hr rfl (fun t ht _ => ⟨_, rfl, (by simp only [f0_has, if_neg c_1, if_neg c_2]), ht⟩) (fun q h => by cases h) dX0_has_17

def f0_add (Bk : Nat → Nat → Int32) (L : Nat) (tool shift : Int32) : Int32 := (Bk 8 0)
def f0_add_Bk (Bk : Nat → Nat → Int32) (L : Nat) (tool shift : Int32) : Nat → Nat → Int32 := (uM (uM (uM Bk 0 (upd (Bk 0) L tool)) 1 (upd (Bk 1) L shift)) 8 (upd (Bk 8) 0 ((Bk 8 0) + 1)))
set_option maxHeartbeats 4000000 in
set_option maxRecDepth 100000 in
theorem kX0_add (l : Launch) (D : va_G) (C : Nat → ClassId) (ab : Nat → Nat) (Bk : Nat → Nat → Int32) (tool shift : Int32) (sz : Nat) (L : Nat) (hL : Bk 8 0 = nI L) (hL60 : L < 60) : Wi l D C yX0_add cX0_add 4 .int 0 [.ref (ab 0), .int tool, .int shift] (wB ab C Bk) ((wB ab C (f0_add_Bk Bk L tool shift))) (f0_add Bk L tool shift) sz := by
  refine Met.ofW (cc := cX0_add) (maxL := 4) (ret := (some .int)) (by decide) rfl ?_
  intro p e s m args below meth c s₁ B hml hv
  obtain ⟨rfl, hsz, hP, hK, hNw, hD0⟩ := hv
  have hx := B.exec
  have hb := B.bytes
  have hr := B.returns
  have hts := atoms_spec (ws := wm yX0_add cX0_add 4 (some .int)) B.pre
  have hown : s.vm.findClass RX0 = some m.cls := findClass_of_methodNamed B.named
  have hlocks := B.notSynchronized
  have hW : ∀ w ∈ WA, w.before _ s = true := fun w h => hts w (List.mem_cons_of_mem _ h)
  subst hsz
  have hD := hD0.self (sz := s.heap.size)
  generalize hAe : va_A (wB ab C Bk) s.heap.size = A at hD ⊢
  have hA : ∀ q : Nat, s.heap.size ≤ q → A q := fun q h => by rw [← hAe]; exact Or.inr h
  have hS : va_S A s.heap s.heap [] := va_S.rf
  have hP : va_P D vwCl [((ab 0), .inr (0, [.ref (ab 1), .ref (ab 2), .ref (ab 3), .ref (ab 4), .ref (ab 5), .int (Bk 8 0), .int (Bk 8 1)])), ((ab 1), eI C 60 (Bk 0)), ((ab 2), eI C 60 (Bk 1)), ((ab 3), eI C 60 (Bk 2)), ((ab 4), eZ C 60 (Bk 3)), ((ab 5), eII C 4 (rr ab 6 4)), ((ab 6), eI C 61 (Bk 4)), ((ab 7), eI C 61 (Bk 5)), ((ab 8), eI C 61 (Bk 6)), ((ab 9), eI C 61 (Bk 7))] s.heap := hP
  have hD : va_D A [((ab 0), .inr (0, [.ref (ab 1), .ref (ab 2), .ref (ab 3), .ref (ab 4), .ref (ab 5), .int (Bk 8 0), .int (Bk 8 1)])), ((ab 1), eI C 60 (Bk 0)), ((ab 2), eI C 60 (Bk 1)), ((ab 3), eI C 60 (Bk 2)), ((ab 4), eZ C 60 (Bk 3)), ((ab 5), eII C 4 (rr ab 6 4)), ((ab 6), eI C 61 (Bk 4)), ((ab 7), eI C 61 (Bk 5)), ((ab 8), eI C 61 (Bk 6)), ((ab 9), eI C 61 (Bk 7))] := hD
  have hl := lv_entry ([.ref (ab 0), .int tool, .int shift]) (n := 4) (Nat.le_of_ble_eq_true rfl)
  rw [lg_entry_eq]
  generalize (lg_sl ([.ref (ab 0), .int tool, .int shift]) ++ List.replicate (4 - (lg_sl ([.ref (ab 0), .int tool, .int shift])).length) Slot.unset).toArray = ls at hl ⊢
  have hl : lv_has ls 4 [(0, .ref (ab 0)), (1, .int tool), (2, .int shift)] := hl
  refine lv_aload_n hx hb dX0_add_0 rfl (lv_at hl 0 rfl) ?_
  refine va_get (D := D) (ci := 0) (C := RX0) (T := TX0) (N := 7) hx hb hW inX0 hown hK hP 0 rfl rfl 5 (by decide) (hW _ (wa tw183 rfl)) (fun _ h9 => h9) rfl dX0_add_1 ?_
  refine lv_istore_n (lv' := [(3, .int (Bk 8 0)), (0, .ref (ab 0)), (1, .int tool), (2, .int shift)]) hx hb dX0_add_4 rfl hl (by decide) rfl (fun ls hl => ?_)
  refine lv_aload_n hx hb dX0_add_5 rfl (lv_at hl 1 rfl) ?_
  refine va_get (D := D) (ci := 0) (C := RX0) (T := TX0) (N := 7) hx hb hW inX0 hown hK hP 0 rfl rfl 0 (by decide) (hW _ (wa tw178 rfl)) (fun _ h9 => h9) rfl dX0_add_6 ?_
  refine lv_iload_n hx hb dX0_add_9 rfl (lv_at hl 0 rfl) ?_
  refine lv_iload_n hx hb dX0_add_10 rfl (lv_at hl 2 rfl) ?_
  refine xiast hx hb hK hP hD hS 1 rfl L hL (by omega) (by decide) dX0_add_11 (fun H locs hP hD hS => ?_)
  have hP : va_P D vwCl [((ab 0), .inr (0, [.ref (ab 1), .ref (ab 2), .ref (ab 3), .ref (ab 4), .ref (ab 5), .int (Bk 8 0), .int (Bk 8 1)])), ((ab 1), eI C 60 (upd (Bk 0) L tool)), ((ab 2), eI C 60 (Bk 1)), ((ab 3), eI C 60 (Bk 2)), ((ab 4), eZ C 60 (Bk 3)), ((ab 5), eII C 4 (rr ab 6 4)), ((ab 6), eI C 61 (Bk 4)), ((ab 7), eI C 61 (Bk 5)), ((ab 8), eI C 61 (Bk 6)), ((ab 9), eI C 61 (Bk 7))] H := hP
  have hD : va_D A [((ab 0), .inr (0, [.ref (ab 1), .ref (ab 2), .ref (ab 3), .ref (ab 4), .ref (ab 5), .int (Bk 8 0), .int (Bk 8 1)])), ((ab 1), eI C 60 (upd (Bk 0) L tool)), ((ab 2), eI C 60 (Bk 1)), ((ab 3), eI C 60 (Bk 2)), ((ab 4), eZ C 60 (Bk 3)), ((ab 5), eII C 4 (rr ab 6 4)), ((ab 6), eI C 61 (Bk 4)), ((ab 7), eI C 61 (Bk 5)), ((ab 8), eI C 61 (Bk 6)), ((ab 9), eI C 61 (Bk 7))] := hD
  refine lv_aload_n hx hb dX0_add_12 rfl (lv_at hl 1 rfl) ?_
  refine va_get (D := D) (ci := 0) (C := RX0) (T := TX0) (N := 7) hx hb hW inX0 hown hK hP 0 rfl rfl 1 (by decide) (hW _ (wa tw179 rfl)) (fun _ h9 => h9) rfl dX0_add_13 ?_
  refine lv_iload_n hx hb dX0_add_16 rfl (lv_at hl 0 rfl) ?_
  refine lv_iload_n hx hb dX0_add_17 rfl (lv_at hl 3 rfl) ?_
  refine xiast hx hb hK hP hD hS 2 rfl L hL (by omega) (by decide) dX0_add_18 (fun H locs hP hD hS => ?_)
  have hP : va_P D vwCl [((ab 0), .inr (0, [.ref (ab 1), .ref (ab 2), .ref (ab 3), .ref (ab 4), .ref (ab 5), .int (Bk 8 0), .int (Bk 8 1)])), ((ab 1), eI C 60 (upd (Bk 0) L tool)), ((ab 2), eI C 60 (upd (Bk 1) L shift)), ((ab 3), eI C 60 (Bk 2)), ((ab 4), eZ C 60 (Bk 3)), ((ab 5), eII C 4 (rr ab 6 4)), ((ab 6), eI C 61 (Bk 4)), ((ab 7), eI C 61 (Bk 5)), ((ab 8), eI C 61 (Bk 6)), ((ab 9), eI C 61 (Bk 7))] H := hP
  have hD : va_D A [((ab 0), .inr (0, [.ref (ab 1), .ref (ab 2), .ref (ab 3), .ref (ab 4), .ref (ab 5), .int (Bk 8 0), .int (Bk 8 1)])), ((ab 1), eI C 60 (upd (Bk 0) L tool)), ((ab 2), eI C 60 (upd (Bk 1) L shift)), ((ab 3), eI C 60 (Bk 2)), ((ab 4), eZ C 60 (Bk 3)), ((ab 5), eII C 4 (rr ab 6 4)), ((ab 6), eI C 61 (Bk 4)), ((ab 7), eI C 61 (Bk 5)), ((ab 8), eI C 61 (Bk 6)), ((ab 9), eI C 61 (Bk 7))] := hD
  refine lv_aload_n hx hb dX0_add_19 rfl (lv_at hl 1 rfl) ?_
  refine lv_iload_n hx hb dX0_add_20 rfl (lv_at hl 0 rfl) ?_
  refine lv_iconst (v := 1) hx hb dX0_add_21 (by decide) ?_
  refine lv_iadd hx hb dX0_add_22 ?_
  refine va_put (D := D) (v := .int ((Bk 8 0) + 1)) (ty := .int) (ci := 0) (C := RX0) (T := TX0) (N := 7) hx hb hW inX0 tyX0 tyX0_ok nmX0 hown hK hP hD hS 0 rfl rfl 5 (by decide) (hW _ (wa tw183 rfl)) (fun _ h9 => h9) rfl (by decide +kernel) rfl rfl (Nat.le_of_ble_eq_true rfl) dX0_add_23 (fun H locs hP hD hS => ?_)
  have hP : va_P D vwCl [((ab 0), .inr (0, [.ref (ab 1), .ref (ab 2), .ref (ab 3), .ref (ab 4), .ref (ab 5), .int ((Bk 8 0) + 1), .int (Bk 8 1)])), ((ab 1), eI C 60 (upd (Bk 0) L tool)), ((ab 2), eI C 60 (upd (Bk 1) L shift)), ((ab 3), eI C 60 (Bk 2)), ((ab 4), eZ C 60 (Bk 3)), ((ab 5), eII C 4 (rr ab 6 4)), ((ab 6), eI C 61 (Bk 4)), ((ab 7), eI C 61 (Bk 5)), ((ab 8), eI C 61 (Bk 6)), ((ab 9), eI C 61 (Bk 7))] H := hP
  have hD : va_D A [((ab 0), .inr (0, [.ref (ab 1), .ref (ab 2), .ref (ab 3), .ref (ab 4), .ref (ab 5), .int ((Bk 8 0) + 1), .int (Bk 8 1)])), ((ab 1), eI C 60 (upd (Bk 0) L tool)), ((ab 2), eI C 60 (upd (Bk 1) L shift)), ((ab 3), eI C 60 (Bk 2)), ((ab 4), eZ C 60 (Bk 3)), ((ab 5), eII C 4 (rr ab 6 4)), ((ab 6), eI C 61 (Bk 4)), ((ab 7), eI C 61 (Bk 5)), ((ab 8), eI C 61 (Bk 6)), ((ab 9), eI C 61 (Bk 7))] := hD
  refine lv_iload_n hx hb dX0_add_26 rfl (lv_at hl 0 rfl) ?_
  have hb_0 : (f0_add_Bk Bk L tool shift) = uM (uM (uM Bk 0 (upd (Bk 0) L tool)) 1 (upd (Bk 1) L shift)) 8 (upd (Bk 8) 0 ((Bk 8 0) + 1)) := (by simp only [f0_add, f0_add_Bk])
  have hP9 : va_P D vwCl ((wB ab C (f0_add_Bk Bk L tool shift))) H := by rw [hb_0]; exact hP
  have hD9 : va_D A ((wB ab C (f0_add_Bk Bk L tool shift))) := by rw [hb_0]; exact hD
  exact W.iret (v := Bk 8 0) hx hb hr (fun t ht _ => ⟨⟨_, (), rfl, (by simp only [f0_add, f0_add_Bk]), ⟨by rw [ht]; exact hP9, by rw [hAe]; exact hD9⟩⟩, hS.F ht⟩) hS.2.2 dX0_add_27

def f0_setRead_Bk (Bk : Nat → Nat → Int32) (k : Nat) (rd : Int32) : Nat → Nat → Int32 := (uM (uM Bk 2 (upd (Bk 2) k rd)) 3 (upd (Bk 3) k 1))
set_option maxHeartbeats 4000000 in
set_option maxRecDepth 100000 in
theorem kX0_setRead (l : Launch) (D : va_G) (C : Nat → ClassId) (ab : Nat → Nat) (Bk : Nat → Nat → Int32) (k : Nat) (rd : Int32) (sz : Nat) (hk : k < 60) : Wv l D C yX0_setRead cX0_setRead 3 0 [.ref (ab 0), .int (nI k), .int rd] (wB ab C Bk) ((wB ab C (f0_setRead_Bk Bk k rd))) sz := by
  refine Met.ofW (cc := cX0_setRead) (maxL := 3) (ret := none) (by decide) rfl ?_
  intro p e s m args below meth c s₁ B hml hv
  obtain ⟨rfl, hsz, hP, hK, hNw, hD0⟩ := hv
  have hx := B.exec
  have hb := B.bytes
  have hr := B.returns
  have hts := atoms_spec (ws := wm yX0_setRead cX0_setRead 3 none) B.pre
  have hown : s.vm.findClass RX0 = some m.cls := findClass_of_methodNamed B.named
  have hlocks := B.notSynchronized
  have hW : ∀ w ∈ WA, w.before _ s = true := fun w h => hts w (List.mem_cons_of_mem _ h)
  subst hsz
  have hD := hD0.self (sz := s.heap.size)
  generalize hAe : va_A (wB ab C Bk) s.heap.size = A at hD ⊢
  have hA : ∀ q : Nat, s.heap.size ≤ q → A q := fun q h => by rw [← hAe]; exact Or.inr h
  have hS : va_S A s.heap s.heap [] := va_S.rf
  have hP : va_P D vwCl [((ab 0), .inr (0, [.ref (ab 1), .ref (ab 2), .ref (ab 3), .ref (ab 4), .ref (ab 5), .int (Bk 8 0), .int (Bk 8 1)])), ((ab 1), eI C 60 (Bk 0)), ((ab 2), eI C 60 (Bk 1)), ((ab 3), eI C 60 (Bk 2)), ((ab 4), eZ C 60 (Bk 3)), ((ab 5), eII C 4 (rr ab 6 4)), ((ab 6), eI C 61 (Bk 4)), ((ab 7), eI C 61 (Bk 5)), ((ab 8), eI C 61 (Bk 6)), ((ab 9), eI C 61 (Bk 7))] s.heap := hP
  have hD : va_D A [((ab 0), .inr (0, [.ref (ab 1), .ref (ab 2), .ref (ab 3), .ref (ab 4), .ref (ab 5), .int (Bk 8 0), .int (Bk 8 1)])), ((ab 1), eI C 60 (Bk 0)), ((ab 2), eI C 60 (Bk 1)), ((ab 3), eI C 60 (Bk 2)), ((ab 4), eZ C 60 (Bk 3)), ((ab 5), eII C 4 (rr ab 6 4)), ((ab 6), eI C 61 (Bk 4)), ((ab 7), eI C 61 (Bk 5)), ((ab 8), eI C 61 (Bk 6)), ((ab 9), eI C 61 (Bk 7))] := hD
  have hl := lv_entry ([.ref (ab 0), .int (nI k), .int rd]) (n := 3) (Nat.le_of_ble_eq_true rfl)
  rw [lg_entry_eq]
  generalize (lg_sl ([.ref (ab 0), .int (nI k), .int rd]) ++ List.replicate (3 - (lg_sl ([.ref (ab 0), .int (nI k), .int rd])).length) Slot.unset).toArray = ls at hl ⊢
  have hl : lv_has ls 3 [(0, .ref (ab 0)), (1, .int (nI k)), (2, .int rd)] := hl
  refine lv_aload_n hx hb dX0_setRead_0 rfl (lv_at hl 0 rfl) ?_
  refine va_get (D := D) (ci := 0) (C := RX0) (T := TX0) (N := 7) hx hb hW inX0 hown hK hP 0 rfl rfl 2 (by decide) (hW _ (wa tw180 rfl)) (fun _ h9 => h9) rfl dX0_setRead_1 ?_
  refine lv_iload_n hx hb dX0_setRead_4 rfl (lv_at hl 1 rfl) ?_
  refine lv_iload_n hx hb dX0_setRead_5 rfl (lv_at hl 2 rfl) ?_
  refine xiast hx hb hK hP hD hS 3 rfl k rfl (by omega) (by decide) dX0_setRead_6 (fun H locs hP hD hS => ?_)
  have hP : va_P D vwCl [((ab 0), .inr (0, [.ref (ab 1), .ref (ab 2), .ref (ab 3), .ref (ab 4), .ref (ab 5), .int (Bk 8 0), .int (Bk 8 1)])), ((ab 1), eI C 60 (Bk 0)), ((ab 2), eI C 60 (Bk 1)), ((ab 3), eI C 60 (upd (Bk 2) k rd)), ((ab 4), eZ C 60 (Bk 3)), ((ab 5), eII C 4 (rr ab 6 4)), ((ab 6), eI C 61 (Bk 4)), ((ab 7), eI C 61 (Bk 5)), ((ab 8), eI C 61 (Bk 6)), ((ab 9), eI C 61 (Bk 7))] H := hP
  have hD : va_D A [((ab 0), .inr (0, [.ref (ab 1), .ref (ab 2), .ref (ab 3), .ref (ab 4), .ref (ab 5), .int (Bk 8 0), .int (Bk 8 1)])), ((ab 1), eI C 60 (Bk 0)), ((ab 2), eI C 60 (Bk 1)), ((ab 3), eI C 60 (upd (Bk 2) k rd)), ((ab 4), eZ C 60 (Bk 3)), ((ab 5), eII C 4 (rr ab 6 4)), ((ab 6), eI C 61 (Bk 4)), ((ab 7), eI C 61 (Bk 5)), ((ab 8), eI C 61 (Bk 6)), ((ab 9), eI C 61 (Bk 7))] := hD
  refine lv_aload_n hx hb dX0_setRead_7 rfl (lv_at hl 0 rfl) ?_
  refine va_get (D := D) (ci := 0) (C := RX0) (T := TX0) (N := 7) hx hb hW inX0 hown hK hP 0 rfl rfl 3 (by decide) (hW _ (wa tw181 rfl)) (fun _ h9 => h9) rfl dX0_setRead_8 ?_
  refine lv_iload_n hx hb dX0_setRead_11 rfl (lv_at hl 1 rfl) ?_
  refine lv_iconst (v := 1) hx hb dX0_setRead_12 (by decide) ?_
  refine xzast hx hb hK hP hD hS 4 rfl k rfl (by omega) (by decide) (by decide) dX0_setRead_13 (fun H locs hP hD hS => ?_)
  have hP : va_P D vwCl [((ab 0), .inr (0, [.ref (ab 1), .ref (ab 2), .ref (ab 3), .ref (ab 4), .ref (ab 5), .int (Bk 8 0), .int (Bk 8 1)])), ((ab 1), eI C 60 (Bk 0)), ((ab 2), eI C 60 (Bk 1)), ((ab 3), eI C 60 (upd (Bk 2) k rd)), ((ab 4), eZ C 60 (upd (Bk 3) k 1)), ((ab 5), eII C 4 (rr ab 6 4)), ((ab 6), eI C 61 (Bk 4)), ((ab 7), eI C 61 (Bk 5)), ((ab 8), eI C 61 (Bk 6)), ((ab 9), eI C 61 (Bk 7))] H := hP
  have hD : va_D A [((ab 0), .inr (0, [.ref (ab 1), .ref (ab 2), .ref (ab 3), .ref (ab 4), .ref (ab 5), .int (Bk 8 0), .int (Bk 8 1)])), ((ab 1), eI C 60 (Bk 0)), ((ab 2), eI C 60 (Bk 1)), ((ab 3), eI C 60 (upd (Bk 2) k rd)), ((ab 4), eZ C 60 (upd (Bk 3) k 1)), ((ab 5), eII C 4 (rr ab 6 4)), ((ab 6), eI C 61 (Bk 4)), ((ab 7), eI C 61 (Bk 5)), ((ab 8), eI C 61 (Bk 6)), ((ab 9), eI C 61 (Bk 7))] := hD
  have hb_0 : (f0_setRead_Bk Bk k rd) = uM (uM Bk 2 (upd (Bk 2) k rd)) 3 (upd (Bk 3) k 1) := (by simp only [f0_setRead_Bk])
  have hP9 : va_P D vwCl ((wB ab C (f0_setRead_Bk Bk k rd))) H := by rw [hb_0]; exact hP
  have hD9 : va_D A ((wB ab C (f0_setRead_Bk Bk k rd))) := by rw [hb_0]; exact hD
  exact W.vret hx hb hr (fun t ht _ => ⟨⟨(), rfl, trivial, ⟨by rw [ht]; exact hP9, by rw [hAe]; exact hD9⟩⟩, hS.F ht⟩) hS.2.2 dX0_setRead_14

set_option maxHeartbeats 4000000 in
set_option maxRecDepth 100000 in
theorem kX0_setMended_0 (l : Launch) (D : va_G) (C : Nat → ClassId) (ab : Nat → Nat) (Bk : Nat → Nat → Int32)  (sz : Nat) (L : Nat) (hL : Bk 8 0 = nI L) (hL60 : L ≤ 60) : Wv l D C yX0_setMended cX0_setMended 2 0 [.ref (ab 0), .int 0] (wB ab C Bk) ((wB ab C (uM Bk 4 (upd (Bk 4) L 1)))) sz := by
  refine Met.ofW (cc := cX0_setMended) (maxL := 2) (ret := none) (by decide) rfl ?_
  intro p e s m args below meth c s₁ B hml hv
  obtain ⟨rfl, hsz, hP, hK, hNw, hD0⟩ := hv
  have hx := B.exec
  have hb := B.bytes
  have hr := B.returns
  have hts := atoms_spec (ws := wm yX0_setMended cX0_setMended 2 none) B.pre
  have hown : s.vm.findClass RX0 = some m.cls := findClass_of_methodNamed B.named
  have hlocks := B.notSynchronized
  have hW : ∀ w ∈ WA, w.before _ s = true := fun w h => hts w (List.mem_cons_of_mem _ h)
  subst hsz
  have hD := hD0.self (sz := s.heap.size)
  generalize hAe : va_A (wB ab C Bk) s.heap.size = A at hD ⊢
  have hA : ∀ q : Nat, s.heap.size ≤ q → A q := fun q h => by rw [← hAe]; exact Or.inr h
  have hS : va_S A s.heap s.heap [] := va_S.rf
  have hP : va_P D vwCl [((ab 0), .inr (0, [.ref (ab 1), .ref (ab 2), .ref (ab 3), .ref (ab 4), .ref (ab 5), .int (Bk 8 0), .int (Bk 8 1)])), ((ab 1), eI C 60 (Bk 0)), ((ab 2), eI C 60 (Bk 1)), ((ab 3), eI C 60 (Bk 2)), ((ab 4), eZ C 60 (Bk 3)), ((ab 5), eII C 4 (rr ab 6 4)), ((ab 6), eI C 61 (Bk 4)), ((ab 7), eI C 61 (Bk 5)), ((ab 8), eI C 61 (Bk 6)), ((ab 9), eI C 61 (Bk 7))] s.heap := hP
  have hD : va_D A [((ab 0), .inr (0, [.ref (ab 1), .ref (ab 2), .ref (ab 3), .ref (ab 4), .ref (ab 5), .int (Bk 8 0), .int (Bk 8 1)])), ((ab 1), eI C 60 (Bk 0)), ((ab 2), eI C 60 (Bk 1)), ((ab 3), eI C 60 (Bk 2)), ((ab 4), eZ C 60 (Bk 3)), ((ab 5), eII C 4 (rr ab 6 4)), ((ab 6), eI C 61 (Bk 4)), ((ab 7), eI C 61 (Bk 5)), ((ab 8), eI C 61 (Bk 6)), ((ab 9), eI C 61 (Bk 7))] := hD
  have hl := lv_entry ([.ref (ab 0), .int 0]) (n := 2) (Nat.le_of_ble_eq_true rfl)
  rw [lg_entry_eq]
  generalize (lg_sl ([.ref (ab 0), .int 0]) ++ List.replicate (2 - (lg_sl ([.ref (ab 0), .int 0])).length) Slot.unset).toArray = ls at hl ⊢
  have hl : lv_has ls 2 [(0, .ref (ab 0)), (1, .int 0)] := hl
  refine lv_aload_n hx hb dX0_setMended_0 rfl (lv_at hl 0 rfl) ?_
  refine va_get (D := D) (ci := 0) (C := RX0) (T := TX0) (N := 7) hx hb hW inX0 hown hK hP 0 rfl rfl 4 (by decide) (hW _ (wa tw182 rfl)) (fun _ h9 => h9) rfl dX0_setMended_1 ?_
  refine lv_iload_n hx hb dX0_setMended_4 rfl (lv_at hl 1 rfl) ?_
  refine xaaldI hx hb hK hP 5 rfl 0 (nI_lit 0) (by decide) (by decide) (b := (ab 6)) rfl dX0_setMended_5 ?_
  refine lv_aload_n hx hb dX0_setMended_6 rfl (lv_at hl 0 rfl) ?_
  refine va_get (D := D) (ci := 0) (C := RX0) (T := TX0) (N := 7) hx hb hW inX0 hown hK hP 0 rfl rfl 5 (by decide) (hW _ (wa tw183 rfl)) (fun _ h9 => h9) rfl dX0_setMended_7 ?_
  refine lv_iconst (v := 1) hx hb dX0_setMended_10 (by decide) ?_
  refine xiast hx hb hK hP hD hS 6 rfl L hL (by omega) (by decide) dX0_setMended_11 (fun H locs hP hD hS => ?_)
  have hP : va_P D vwCl [((ab 0), .inr (0, [.ref (ab 1), .ref (ab 2), .ref (ab 3), .ref (ab 4), .ref (ab 5), .int (Bk 8 0), .int (Bk 8 1)])), ((ab 1), eI C 60 (Bk 0)), ((ab 2), eI C 60 (Bk 1)), ((ab 3), eI C 60 (Bk 2)), ((ab 4), eZ C 60 (Bk 3)), ((ab 5), eII C 4 (rr ab 6 4)), ((ab 6), eI C 61 (upd (Bk 4) L 1)), ((ab 7), eI C 61 (Bk 5)), ((ab 8), eI C 61 (Bk 6)), ((ab 9), eI C 61 (Bk 7))] H := hP
  have hD : va_D A [((ab 0), .inr (0, [.ref (ab 1), .ref (ab 2), .ref (ab 3), .ref (ab 4), .ref (ab 5), .int (Bk 8 0), .int (Bk 8 1)])), ((ab 1), eI C 60 (Bk 0)), ((ab 2), eI C 60 (Bk 1)), ((ab 3), eI C 60 (Bk 2)), ((ab 4), eZ C 60 (Bk 3)), ((ab 5), eII C 4 (rr ab 6 4)), ((ab 6), eI C 61 (upd (Bk 4) L 1)), ((ab 7), eI C 61 (Bk 5)), ((ab 8), eI C 61 (Bk 6)), ((ab 9), eI C 61 (Bk 7))] := hD
  have hP9 : va_P D vwCl ((wB ab C (uM Bk 4 (upd (Bk 4) L 1)))) H := hP
  have hD9 : va_D A ((wB ab C (uM Bk 4 (upd (Bk 4) L 1)))) := hD
  exact W.vret hx hb hr (fun t ht _ => ⟨⟨(), rfl, trivial, ⟨by rw [ht]; exact hP9, by rw [hAe]; exact hD9⟩⟩, hS.F ht⟩) hS.2.2 dX0_setMended_12

set_option maxHeartbeats 4000000 in
set_option maxRecDepth 100000 in
theorem kX0_setMended_1 (l : Launch) (D : va_G) (C : Nat → ClassId) (ab : Nat → Nat) (Bk : Nat → Nat → Int32)  (sz : Nat) (L : Nat) (hL : Bk 8 0 = nI L) (hL60 : L ≤ 60) : Wv l D C yX0_setMended cX0_setMended 2 0 [.ref (ab 0), .int 1] (wB ab C Bk) ((wB ab C (uM Bk 5 (upd (Bk 5) L 1)))) sz := by
  refine Met.ofW (cc := cX0_setMended) (maxL := 2) (ret := none) (by decide) rfl ?_
  intro p e s m args below meth c s₁ B hml hv
  obtain ⟨rfl, hsz, hP, hK, hNw, hD0⟩ := hv
  have hx := B.exec
  have hb := B.bytes
  have hr := B.returns
  have hts := atoms_spec (ws := wm yX0_setMended cX0_setMended 2 none) B.pre
  have hown : s.vm.findClass RX0 = some m.cls := findClass_of_methodNamed B.named
  have hlocks := B.notSynchronized
  have hW : ∀ w ∈ WA, w.before _ s = true := fun w h => hts w (List.mem_cons_of_mem _ h)
  subst hsz
  have hD := hD0.self (sz := s.heap.size)
  generalize hAe : va_A (wB ab C Bk) s.heap.size = A at hD ⊢
  have hA : ∀ q : Nat, s.heap.size ≤ q → A q := fun q h => by rw [← hAe]; exact Or.inr h
  have hS : va_S A s.heap s.heap [] := va_S.rf
  have hP : va_P D vwCl [((ab 0), .inr (0, [.ref (ab 1), .ref (ab 2), .ref (ab 3), .ref (ab 4), .ref (ab 5), .int (Bk 8 0), .int (Bk 8 1)])), ((ab 1), eI C 60 (Bk 0)), ((ab 2), eI C 60 (Bk 1)), ((ab 3), eI C 60 (Bk 2)), ((ab 4), eZ C 60 (Bk 3)), ((ab 5), eII C 4 (rr ab 6 4)), ((ab 6), eI C 61 (Bk 4)), ((ab 7), eI C 61 (Bk 5)), ((ab 8), eI C 61 (Bk 6)), ((ab 9), eI C 61 (Bk 7))] s.heap := hP
  have hD : va_D A [((ab 0), .inr (0, [.ref (ab 1), .ref (ab 2), .ref (ab 3), .ref (ab 4), .ref (ab 5), .int (Bk 8 0), .int (Bk 8 1)])), ((ab 1), eI C 60 (Bk 0)), ((ab 2), eI C 60 (Bk 1)), ((ab 3), eI C 60 (Bk 2)), ((ab 4), eZ C 60 (Bk 3)), ((ab 5), eII C 4 (rr ab 6 4)), ((ab 6), eI C 61 (Bk 4)), ((ab 7), eI C 61 (Bk 5)), ((ab 8), eI C 61 (Bk 6)), ((ab 9), eI C 61 (Bk 7))] := hD
  have hl := lv_entry ([.ref (ab 0), .int 1]) (n := 2) (Nat.le_of_ble_eq_true rfl)
  rw [lg_entry_eq]
  generalize (lg_sl ([.ref (ab 0), .int 1]) ++ List.replicate (2 - (lg_sl ([.ref (ab 0), .int 1])).length) Slot.unset).toArray = ls at hl ⊢
  have hl : lv_has ls 2 [(0, .ref (ab 0)), (1, .int 1)] := hl
  refine lv_aload_n hx hb dX0_setMended_0 rfl (lv_at hl 0 rfl) ?_
  refine va_get (D := D) (ci := 0) (C := RX0) (T := TX0) (N := 7) hx hb hW inX0 hown hK hP 0 rfl rfl 4 (by decide) (hW _ (wa tw182 rfl)) (fun _ h9 => h9) rfl dX0_setMended_1 ?_
  refine lv_iload_n hx hb dX0_setMended_4 rfl (lv_at hl 1 rfl) ?_
  refine xaaldI hx hb hK hP 5 rfl 1 (nI_lit 1) (by decide) (by decide) (b := (ab 7)) rfl dX0_setMended_5 ?_
  refine lv_aload_n hx hb dX0_setMended_6 rfl (lv_at hl 0 rfl) ?_
  refine va_get (D := D) (ci := 0) (C := RX0) (T := TX0) (N := 7) hx hb hW inX0 hown hK hP 0 rfl rfl 5 (by decide) (hW _ (wa tw183 rfl)) (fun _ h9 => h9) rfl dX0_setMended_7 ?_
  refine lv_iconst (v := 1) hx hb dX0_setMended_10 (by decide) ?_
  refine xiast hx hb hK hP hD hS 7 rfl L hL (by omega) (by decide) dX0_setMended_11 (fun H locs hP hD hS => ?_)
  have hP : va_P D vwCl [((ab 0), .inr (0, [.ref (ab 1), .ref (ab 2), .ref (ab 3), .ref (ab 4), .ref (ab 5), .int (Bk 8 0), .int (Bk 8 1)])), ((ab 1), eI C 60 (Bk 0)), ((ab 2), eI C 60 (Bk 1)), ((ab 3), eI C 60 (Bk 2)), ((ab 4), eZ C 60 (Bk 3)), ((ab 5), eII C 4 (rr ab 6 4)), ((ab 6), eI C 61 (Bk 4)), ((ab 7), eI C 61 (upd (Bk 5) L 1)), ((ab 8), eI C 61 (Bk 6)), ((ab 9), eI C 61 (Bk 7))] H := hP
  have hD : va_D A [((ab 0), .inr (0, [.ref (ab 1), .ref (ab 2), .ref (ab 3), .ref (ab 4), .ref (ab 5), .int (Bk 8 0), .int (Bk 8 1)])), ((ab 1), eI C 60 (Bk 0)), ((ab 2), eI C 60 (Bk 1)), ((ab 3), eI C 60 (Bk 2)), ((ab 4), eZ C 60 (Bk 3)), ((ab 5), eII C 4 (rr ab 6 4)), ((ab 6), eI C 61 (Bk 4)), ((ab 7), eI C 61 (upd (Bk 5) L 1)), ((ab 8), eI C 61 (Bk 6)), ((ab 9), eI C 61 (Bk 7))] := hD
  have hP9 : va_P D vwCl ((wB ab C (uM Bk 5 (upd (Bk 5) L 1)))) H := hP
  have hD9 : va_D A ((wB ab C (uM Bk 5 (upd (Bk 5) L 1)))) := hD
  exact W.vret hx hb hr (fun t ht _ => ⟨⟨(), rfl, trivial, ⟨by rw [ht]; exact hP9, by rw [hAe]; exact hD9⟩⟩, hS.F ht⟩) hS.2.2 dX0_setMended_12

set_option maxHeartbeats 4000000 in
set_option maxRecDepth 100000 in
theorem kX0_setMended_2 (l : Launch) (D : va_G) (C : Nat → ClassId) (ab : Nat → Nat) (Bk : Nat → Nat → Int32)  (sz : Nat) (L : Nat) (hL : Bk 8 0 = nI L) (hL60 : L ≤ 60) : Wv l D C yX0_setMended cX0_setMended 2 0 [.ref (ab 0), .int 2] (wB ab C Bk) ((wB ab C (uM Bk 6 (upd (Bk 6) L 1)))) sz := by
  refine Met.ofW (cc := cX0_setMended) (maxL := 2) (ret := none) (by decide) rfl ?_
  intro p e s m args below meth c s₁ B hml hv
  obtain ⟨rfl, hsz, hP, hK, hNw, hD0⟩ := hv
  have hx := B.exec
  have hb := B.bytes
  have hr := B.returns
  have hts := atoms_spec (ws := wm yX0_setMended cX0_setMended 2 none) B.pre
  have hown : s.vm.findClass RX0 = some m.cls := findClass_of_methodNamed B.named
  have hlocks := B.notSynchronized
  have hW : ∀ w ∈ WA, w.before _ s = true := fun w h => hts w (List.mem_cons_of_mem _ h)
  subst hsz
  have hD := hD0.self (sz := s.heap.size)
  generalize hAe : va_A (wB ab C Bk) s.heap.size = A at hD ⊢
  have hA : ∀ q : Nat, s.heap.size ≤ q → A q := fun q h => by rw [← hAe]; exact Or.inr h
  have hS : va_S A s.heap s.heap [] := va_S.rf
  have hP : va_P D vwCl [((ab 0), .inr (0, [.ref (ab 1), .ref (ab 2), .ref (ab 3), .ref (ab 4), .ref (ab 5), .int (Bk 8 0), .int (Bk 8 1)])), ((ab 1), eI C 60 (Bk 0)), ((ab 2), eI C 60 (Bk 1)), ((ab 3), eI C 60 (Bk 2)), ((ab 4), eZ C 60 (Bk 3)), ((ab 5), eII C 4 (rr ab 6 4)), ((ab 6), eI C 61 (Bk 4)), ((ab 7), eI C 61 (Bk 5)), ((ab 8), eI C 61 (Bk 6)), ((ab 9), eI C 61 (Bk 7))] s.heap := hP
  have hD : va_D A [((ab 0), .inr (0, [.ref (ab 1), .ref (ab 2), .ref (ab 3), .ref (ab 4), .ref (ab 5), .int (Bk 8 0), .int (Bk 8 1)])), ((ab 1), eI C 60 (Bk 0)), ((ab 2), eI C 60 (Bk 1)), ((ab 3), eI C 60 (Bk 2)), ((ab 4), eZ C 60 (Bk 3)), ((ab 5), eII C 4 (rr ab 6 4)), ((ab 6), eI C 61 (Bk 4)), ((ab 7), eI C 61 (Bk 5)), ((ab 8), eI C 61 (Bk 6)), ((ab 9), eI C 61 (Bk 7))] := hD
  have hl := lv_entry ([.ref (ab 0), .int 2]) (n := 2) (Nat.le_of_ble_eq_true rfl)
  rw [lg_entry_eq]
  generalize (lg_sl ([.ref (ab 0), .int 2]) ++ List.replicate (2 - (lg_sl ([.ref (ab 0), .int 2])).length) Slot.unset).toArray = ls at hl ⊢
  have hl : lv_has ls 2 [(0, .ref (ab 0)), (1, .int 2)] := hl
  refine lv_aload_n hx hb dX0_setMended_0 rfl (lv_at hl 0 rfl) ?_
  refine va_get (D := D) (ci := 0) (C := RX0) (T := TX0) (N := 7) hx hb hW inX0 hown hK hP 0 rfl rfl 4 (by decide) (hW _ (wa tw182 rfl)) (fun _ h9 => h9) rfl dX0_setMended_1 ?_
  refine lv_iload_n hx hb dX0_setMended_4 rfl (lv_at hl 1 rfl) ?_
  refine xaaldI hx hb hK hP 5 rfl 2 (nI_lit 2) (by decide) (by decide) (b := (ab 8)) rfl dX0_setMended_5 ?_
  refine lv_aload_n hx hb dX0_setMended_6 rfl (lv_at hl 0 rfl) ?_
  refine va_get (D := D) (ci := 0) (C := RX0) (T := TX0) (N := 7) hx hb hW inX0 hown hK hP 0 rfl rfl 5 (by decide) (hW _ (wa tw183 rfl)) (fun _ h9 => h9) rfl dX0_setMended_7 ?_
  refine lv_iconst (v := 1) hx hb dX0_setMended_10 (by decide) ?_
  refine xiast hx hb hK hP hD hS 8 rfl L hL (by omega) (by decide) dX0_setMended_11 (fun H locs hP hD hS => ?_)
  have hP : va_P D vwCl [((ab 0), .inr (0, [.ref (ab 1), .ref (ab 2), .ref (ab 3), .ref (ab 4), .ref (ab 5), .int (Bk 8 0), .int (Bk 8 1)])), ((ab 1), eI C 60 (Bk 0)), ((ab 2), eI C 60 (Bk 1)), ((ab 3), eI C 60 (Bk 2)), ((ab 4), eZ C 60 (Bk 3)), ((ab 5), eII C 4 (rr ab 6 4)), ((ab 6), eI C 61 (Bk 4)), ((ab 7), eI C 61 (Bk 5)), ((ab 8), eI C 61 (upd (Bk 6) L 1)), ((ab 9), eI C 61 (Bk 7))] H := hP
  have hD : va_D A [((ab 0), .inr (0, [.ref (ab 1), .ref (ab 2), .ref (ab 3), .ref (ab 4), .ref (ab 5), .int (Bk 8 0), .int (Bk 8 1)])), ((ab 1), eI C 60 (Bk 0)), ((ab 2), eI C 60 (Bk 1)), ((ab 3), eI C 60 (Bk 2)), ((ab 4), eZ C 60 (Bk 3)), ((ab 5), eII C 4 (rr ab 6 4)), ((ab 6), eI C 61 (Bk 4)), ((ab 7), eI C 61 (Bk 5)), ((ab 8), eI C 61 (upd (Bk 6) L 1)), ((ab 9), eI C 61 (Bk 7))] := hD
  have hP9 : va_P D vwCl ((wB ab C (uM Bk 6 (upd (Bk 6) L 1)))) H := hP
  have hD9 : va_D A ((wB ab C (uM Bk 6 (upd (Bk 6) L 1)))) := hD
  exact W.vret hx hb hr (fun t ht _ => ⟨⟨(), rfl, trivial, ⟨by rw [ht]; exact hP9, by rw [hAe]; exact hD9⟩⟩, hS.F ht⟩) hS.2.2 dX0_setMended_12

set_option maxHeartbeats 4000000 in
set_option maxRecDepth 100000 in
theorem kX0_setMended_3 (l : Launch) (D : va_G) (C : Nat → ClassId) (ab : Nat → Nat) (Bk : Nat → Nat → Int32)  (sz : Nat) (L : Nat) (hL : Bk 8 0 = nI L) (hL60 : L ≤ 60) : Wv l D C yX0_setMended cX0_setMended 2 0 [.ref (ab 0), .int 3] (wB ab C Bk) ((wB ab C (uM Bk 7 (upd (Bk 7) L 1)))) sz := by
  refine Met.ofW (cc := cX0_setMended) (maxL := 2) (ret := none) (by decide) rfl ?_
  intro p e s m args below meth c s₁ B hml hv
  obtain ⟨rfl, hsz, hP, hK, hNw, hD0⟩ := hv
  have hx := B.exec
  have hb := B.bytes
  have hr := B.returns
  have hts := atoms_spec (ws := wm yX0_setMended cX0_setMended 2 none) B.pre
  have hown : s.vm.findClass RX0 = some m.cls := findClass_of_methodNamed B.named
  have hlocks := B.notSynchronized
  have hW : ∀ w ∈ WA, w.before _ s = true := fun w h => hts w (List.mem_cons_of_mem _ h)
  subst hsz
  have hD := hD0.self (sz := s.heap.size)
  generalize hAe : va_A (wB ab C Bk) s.heap.size = A at hD ⊢
  have hA : ∀ q : Nat, s.heap.size ≤ q → A q := fun q h => by rw [← hAe]; exact Or.inr h
  have hS : va_S A s.heap s.heap [] := va_S.rf
  have hP : va_P D vwCl [((ab 0), .inr (0, [.ref (ab 1), .ref (ab 2), .ref (ab 3), .ref (ab 4), .ref (ab 5), .int (Bk 8 0), .int (Bk 8 1)])), ((ab 1), eI C 60 (Bk 0)), ((ab 2), eI C 60 (Bk 1)), ((ab 3), eI C 60 (Bk 2)), ((ab 4), eZ C 60 (Bk 3)), ((ab 5), eII C 4 (rr ab 6 4)), ((ab 6), eI C 61 (Bk 4)), ((ab 7), eI C 61 (Bk 5)), ((ab 8), eI C 61 (Bk 6)), ((ab 9), eI C 61 (Bk 7))] s.heap := hP
  have hD : va_D A [((ab 0), .inr (0, [.ref (ab 1), .ref (ab 2), .ref (ab 3), .ref (ab 4), .ref (ab 5), .int (Bk 8 0), .int (Bk 8 1)])), ((ab 1), eI C 60 (Bk 0)), ((ab 2), eI C 60 (Bk 1)), ((ab 3), eI C 60 (Bk 2)), ((ab 4), eZ C 60 (Bk 3)), ((ab 5), eII C 4 (rr ab 6 4)), ((ab 6), eI C 61 (Bk 4)), ((ab 7), eI C 61 (Bk 5)), ((ab 8), eI C 61 (Bk 6)), ((ab 9), eI C 61 (Bk 7))] := hD
  have hl := lv_entry ([.ref (ab 0), .int 3]) (n := 2) (Nat.le_of_ble_eq_true rfl)
  rw [lg_entry_eq]
  generalize (lg_sl ([.ref (ab 0), .int 3]) ++ List.replicate (2 - (lg_sl ([.ref (ab 0), .int 3])).length) Slot.unset).toArray = ls at hl ⊢
  have hl : lv_has ls 2 [(0, .ref (ab 0)), (1, .int 3)] := hl
  refine lv_aload_n hx hb dX0_setMended_0 rfl (lv_at hl 0 rfl) ?_
  refine va_get (D := D) (ci := 0) (C := RX0) (T := TX0) (N := 7) hx hb hW inX0 hown hK hP 0 rfl rfl 4 (by decide) (hW _ (wa tw182 rfl)) (fun _ h9 => h9) rfl dX0_setMended_1 ?_
  refine lv_iload_n hx hb dX0_setMended_4 rfl (lv_at hl 1 rfl) ?_
  refine xaaldI hx hb hK hP 5 rfl 3 (nI_lit 3) (by decide) (by decide) (b := (ab 9)) rfl dX0_setMended_5 ?_
  refine lv_aload_n hx hb dX0_setMended_6 rfl (lv_at hl 0 rfl) ?_
  refine va_get (D := D) (ci := 0) (C := RX0) (T := TX0) (N := 7) hx hb hW inX0 hown hK hP 0 rfl rfl 5 (by decide) (hW _ (wa tw183 rfl)) (fun _ h9 => h9) rfl dX0_setMended_7 ?_
  refine lv_iconst (v := 1) hx hb dX0_setMended_10 (by decide) ?_
  refine xiast hx hb hK hP hD hS 9 rfl L hL (by omega) (by decide) dX0_setMended_11 (fun H locs hP hD hS => ?_)
  have hP : va_P D vwCl [((ab 0), .inr (0, [.ref (ab 1), .ref (ab 2), .ref (ab 3), .ref (ab 4), .ref (ab 5), .int (Bk 8 0), .int (Bk 8 1)])), ((ab 1), eI C 60 (Bk 0)), ((ab 2), eI C 60 (Bk 1)), ((ab 3), eI C 60 (Bk 2)), ((ab 4), eZ C 60 (Bk 3)), ((ab 5), eII C 4 (rr ab 6 4)), ((ab 6), eI C 61 (Bk 4)), ((ab 7), eI C 61 (Bk 5)), ((ab 8), eI C 61 (Bk 6)), ((ab 9), eI C 61 (upd (Bk 7) L 1))] H := hP
  have hD : va_D A [((ab 0), .inr (0, [.ref (ab 1), .ref (ab 2), .ref (ab 3), .ref (ab 4), .ref (ab 5), .int (Bk 8 0), .int (Bk 8 1)])), ((ab 1), eI C 60 (Bk 0)), ((ab 2), eI C 60 (Bk 1)), ((ab 3), eI C 60 (Bk 2)), ((ab 4), eZ C 60 (Bk 3)), ((ab 5), eII C 4 (rr ab 6 4)), ((ab 6), eI C 61 (Bk 4)), ((ab 7), eI C 61 (Bk 5)), ((ab 8), eI C 61 (Bk 6)), ((ab 9), eI C 61 (upd (Bk 7) L 1))] := hD
  have hP9 : va_P D vwCl ((wB ab C (uM Bk 7 (upd (Bk 7) L 1)))) H := hP
  have hD9 : va_D A ((wB ab C (uM Bk 7 (upd (Bk 7) L 1)))) := hD
  exact W.vret hx hb hr (fun t ht _ => ⟨⟨(), rfl, trivial, ⟨by rw [ht]; exact hP9, by rw [hAe]; exact hD9⟩⟩, hS.F ht⟩) hS.2.2 dX0_setMended_12

def hmL (row : Nat → Int32) : Nat → Nat → Int32 → Int32
  | 0, _, x => x
  | n + 1, k, x => if row k = 0 then hmL row n (k + 1) x else hmL row n (k + 1) (x + 1)
def saM (mr : Nat → Int32) (k : Nat) (x : Int32) : Int32 := if mr k = 1 then 0 else x
def saU (Bk : Nat → Nat → Int32) (ti : Int32) (k : Nat) (y : Int32) : Int32 := if Bk 0 k = ti then (if Bk 3 k = 0 then y else y + Bk 8 1 * (1000 * (Bk 2 k - Bk 1 k) - y) / 16) else y
def saL (Bk : Nat → Nat → Int32) (mr : Nat → Int32) (ti : Int32) : Nat → Nat → Int32 → Int32
  | 0, _, x => x
  | r + 1, k, x => saL Bk mr ti r (k + 1) (saU Bk ti k (saM mr k x))
def f0_state (Bk : Nat → Nat → Int32) (mr : Nat → Int32) (ti : Int32) (n : Nat) : Int32 := if mr n = 1 then 0 else saL Bk mr ti n 0 0

set_option maxHeartbeats 4000000 in
set_option maxRecDepth 100000 in
theorem kX0_howManyRead (l : Launch) (D : va_G) (C : Nat → ClassId) (ab : Nat → Nat) (Bk : Nat → Nat → Int32)  (L : Nat) (hL : Bk 8 0 = nI L) (hL60 : L ≤ 60) : Ri l D C yX0_howManyRead cX0_howManyRead 3 .int 0 [.ref (ab 0)] (wB ab C Bk) (hmL (Bk 3) L 0 0) := by
  refine Met.ofW (cc := cX0_howManyRead) (maxL := 3) (ret := (some .int)) (by decide) rfl ?_
  intro p e s m args below meth c s₁ B hml hv
  obtain ⟨rfl, hP, hK, hNw⟩ := hv
  have hx := B.exec
  have hb := B.bytes
  have hr := B.returns
  have hts := atoms_spec (ws := wm yX0_howManyRead cX0_howManyRead 3 (some .int)) B.pre
  have hown : s.vm.findClass RX0 = some m.cls := findClass_of_methodNamed B.named
  have hlocks := B.notSynchronized
  have hW : ∀ w ∈ WA, w.before _ s = true := fun w h => hts w (List.mem_cons_of_mem _ h)
  have hP : va_P D vwCl [((ab 0), .inr (0, [.ref (ab 1), .ref (ab 2), .ref (ab 3), .ref (ab 4), .ref (ab 5), .int (Bk 8 0), .int (Bk 8 1)])), ((ab 1), eI C 60 (Bk 0)), ((ab 2), eI C 60 (Bk 1)), ((ab 3), eI C 60 (Bk 2)), ((ab 4), eZ C 60 (Bk 3)), ((ab 5), eII C 4 (rr ab 6 4)), ((ab 6), eI C 61 (Bk 4)), ((ab 7), eI C 61 (Bk 5)), ((ab 8), eI C 61 (Bk 6)), ((ab 9), eI C 61 (Bk 7))] s.heap := hP
  have hl := lv_entry ([.ref (ab 0)]) (n := 3) (Nat.le_of_ble_eq_true rfl)
  rw [lg_entry_eq]
  generalize (lg_sl ([.ref (ab 0)]) ++ List.replicate (3 - (lg_sl ([.ref (ab 0)])).length) Slot.unset).toArray = ls at hl ⊢
  have hl : lv_has ls 3 [(0, .ref (ab 0))] := hl
  refine lv_iconst (v := 0) hx hb dX0_howManyRead_0 (by decide) ?_
  refine lv_istore_n (lv' := [(1, .int 0), (0, .ref (ab 0))]) hx hb dX0_howManyRead_1 rfl hl (by decide) rfl (fun ls hl => ?_)
  refine lv_iconst (v := 0) hx hb dX0_howManyRead_2 (by decide) ?_
  refine lv_istore_n (lv' := [(2, .int 0), (1, .int 0), (0, .ref (ab 0))]) hx hb dX0_howManyRead_3 rfl hl (by decide) rfl (fun ls hl => ?_)
  obtain ⟨n4, k, x, hinv⟩ : ∃ (n4 : Nat) (k : Nat) (x : Int32), (k + n4 = L) ∧ (hmL (Bk 3) n4 k x = hmL (Bk 3) L 0 0) ∧ lv_has ls 3 [(0, .ref (ab 0)), (1, .int x), (2, .int (nI k))] := ⟨L, 0, 0, by omega, rfl, lv_sub hl [2, 1, 0] rfl⟩
  clear hl
  induction n4 generalizing k x ls with
  | zero =>
    obtain ⟨h4_0, h4_1, hl⟩ := hinv
    refine lv_iload_n hx hb dX0_howManyRead_4 rfl (lv_at hl 2 rfl) ?_
    refine lv_aload_n hx hb dX0_howManyRead_5 rfl (lv_at hl 0 rfl) ?_
    refine va_get (D := D) (ci := 0) (C := RX0) (T := TX0) (N := 7) hx hb hW inX0 hown hK hP 0 rfl rfl 5 (by decide) (hW _ (wa tw183 rfl)) (fun _ h9 => h9) rfl dX0_howManyRead_6 ?_
    refine lv_icmp_ge (tgt := 30) hx hb dX0_howManyRead_9 (by decide) (fun c_1 => ?_) (fun c_1 => ?_)
    · refine lv_iload_n hx hb dX0_howManyRead_30 rfl (lv_at hl 1 rfl) ?_
      exact W.iret (v := x) hx hb hr (fun t ht _ => ⟨_, rfl, h4_1, ht⟩) (fun q h => by cases h) dX0_howManyRead_31
    · exact absurd (q_le hL rfl (by omega) (by omega)) c_1
  | succ n4 ih4 =>
    obtain ⟨h4_0, h4_1, hl⟩ := hinv
    refine lv_iload_n hx hb dX0_howManyRead_4 rfl (lv_at hl 2 rfl) ?_
    refine lv_aload_n hx hb dX0_howManyRead_5 rfl (lv_at hl 0 rfl) ?_
    refine va_get (D := D) (ci := 0) (C := RX0) (T := TX0) (N := 7) hx hb hW inX0 hown hK hP 0 rfl rfl 5 (by decide) (hW _ (wa tw183 rfl)) (fun _ h9 => h9) rfl dX0_howManyRead_6 ?_
    refine lv_icmp_ge (tgt := 30) hx hb dX0_howManyRead_9 (by decide) (fun c_2 => ?_) (fun c_2 => ?_)
    · exact absurd c_2 (q_nle hL rfl (by omega) (by omega))
    · refine lv_aload_n hx hb dX0_howManyRead_12 rfl (lv_at hl 0 rfl) ?_
      refine va_get (D := D) (ci := 0) (C := RX0) (T := TX0) (N := 7) hx hb hW inX0 hown hK hP 0 rfl rfl 3 (by decide) (hW _ (wa tw181 rfl)) (fun _ h9 => h9) rfl dX0_howManyRead_13 ?_
      refine lv_iload_n hx hb dX0_howManyRead_16 rfl (lv_at hl 2 rfl) ?_
      refine xzald hx hb hK hP 4 rfl k rfl (by omega) (by decide) dX0_howManyRead_17 ?_
      refine lv_if_eq (tgt := 24) hx hb dX0_howManyRead_18 (by decide) (fun c_3 => ?_) (fun c_3 => ?_)
      · refine lv_iinc (v := nI k + 1) (lv' := [(2, .int (nI k + 1)), (0, .ref (ab 0)), (1, .int x)]) hx hb dX0_howManyRead_24 hl (k := 2) rfl rfl (by decide) rfl (fun ls hl => ?_)
        refine lv_goto (tgt := 4) hx hb dX0_howManyRead_27 (by decide) ?_
        rw [nI_1] at hl
        exact ih4 (k := k + 1) (x := x) (ls := ls) ⟨by omega, by rw [← h4_1, hmL, if_pos c_3], lv_sub hl [1, 2, 0] rfl⟩
      · refine lv_iinc (v := x + 1) (lv' := [(1, .int (x + 1)), (0, .ref (ab 0)), (2, .int (nI k))]) hx hb dX0_howManyRead_21 hl (k := 1) rfl rfl (by decide) rfl (fun ls hl => ?_)
        refine lv_iinc (v := nI k + 1) (lv' := [(2, .int (nI k + 1)), (1, .int (x + 1)), (0, .ref (ab 0))]) hx hb dX0_howManyRead_24 hl (k := 2) rfl rfl (by decide) rfl (fun ls hl => ?_)
        refine lv_goto (tgt := 4) hx hb dX0_howManyRead_27 (by decide) ?_
        rw [nI_1] at hl
        exact ih4 (k := k + 1) (x := (x + 1)) (ls := ls) ⟨by omega, by rw [← h4_1, hmL, if_neg c_3], lv_sub hl [2, 1, 0] rfl⟩

set_option maxHeartbeats 4000000 in
set_option maxRecDepth 100000 in
theorem kX0_stateAhead_0 (l : Launch) (D : va_G) (C : Nat → ClassId) (ab : Nat → Nat) (Bk : Nat → Nat → Int32) (n : Nat) (hn60 : n ≤ 60) : Ri l D C yX0_stateAhead cX0_stateAhead 6 .int 0 [.ref (ab 0), .int 0, .int (nI n)] (wB ab C Bk) (f0_state Bk (Bk 4) 0 n) := by
  refine Met.ofW (cc := cX0_stateAhead) (maxL := 6) (ret := (some .int)) (by decide) rfl ?_
  intro p e s m args below meth c s₁ B hml hv
  obtain ⟨rfl, hP, hK, hNw⟩ := hv
  have hx := B.exec
  have hb := B.bytes
  have hr := B.returns
  have hts := atoms_spec (ws := wm yX0_stateAhead cX0_stateAhead 6 (some .int)) B.pre
  have hown : s.vm.findClass RX0 = some m.cls := findClass_of_methodNamed B.named
  have hlocks := B.notSynchronized
  have hW : ∀ w ∈ WA, w.before _ s = true := fun w h => hts w (List.mem_cons_of_mem _ h)
  have hP : va_P D vwCl [((ab 0), .inr (0, [.ref (ab 1), .ref (ab 2), .ref (ab 3), .ref (ab 4), .ref (ab 5), .int (Bk 8 0), .int (Bk 8 1)])), ((ab 1), eI C 60 (Bk 0)), ((ab 2), eI C 60 (Bk 1)), ((ab 3), eI C 60 (Bk 2)), ((ab 4), eZ C 60 (Bk 3)), ((ab 5), eII C 4 (rr ab 6 4)), ((ab 6), eI C 61 (Bk 4)), ((ab 7), eI C 61 (Bk 5)), ((ab 8), eI C 61 (Bk 6)), ((ab 9), eI C 61 (Bk 7))] s.heap := hP
  have hl := lv_entry ([.ref (ab 0), .int 0, .int (nI n)]) (n := 6) (Nat.le_of_ble_eq_true rfl)
  rw [lg_entry_eq]
  generalize (lg_sl ([.ref (ab 0), .int 0, .int (nI n)]) ++ List.replicate (6 - (lg_sl ([.ref (ab 0), .int 0, .int (nI n)])).length) Slot.unset).toArray = ls at hl ⊢
  have hl : lv_has ls 6 [(0, .ref (ab 0)), (1, .int 0), (2, .int (nI n))] := hl
  refine lv_iconst (v := 0) hx hb dX0_stateAhead_0 (by decide) ?_
  refine lv_istore_n (lv' := [(3, .int 0), (0, .ref (ab 0)), (1, .int 0), (2, .int (nI n))]) hx hb dX0_stateAhead_1 rfl hl (by decide) rfl (fun ls hl => ?_)
  refine lv_iconst (v := 0) hx hb dX0_stateAhead_2 (by decide) ?_
  refine lv_istore (lv' := [(4, .int 0), (3, .int 0), (0, .ref (ab 0)), (1, .int 0), (2, .int (nI n))]) hx hb dX0_stateAhead_3 hl (by decide) rfl (fun ls hl => ?_)
  obtain ⟨n5, k, x, hinv⟩ : ∃ (n5 : Nat) (k : Nat) (x : Int32), (k + n5 = n) ∧ (saL Bk (Bk 4) 0 n5 k x = saL Bk (Bk 4) 0 n 0 0) ∧ lv_has ls 6 [(0, .ref (ab 0)), (1, .int 0), (2, .int (nI n)), (3, .int x), (4, .int (nI k))] := ⟨n, 0, 0, by omega, rfl, lv_sub hl [2, 3, 4, 1, 0] rfl⟩
  clear hl
  induction n5 generalizing k x ls with
  | zero =>
    obtain ⟨h5_0, h5_1, hl⟩ := hinv
    refine lv_iload hx hb dX0_stateAhead_5 (lv_at hl 4 rfl) ?_
    refine lv_iload_n hx hb dX0_stateAhead_7 rfl (lv_at hl 2 rfl) ?_
    refine lv_icmp_ge (tgt := 89) hx hb dX0_stateAhead_8 (by decide) (fun c_1 => ?_) (fun c_1 => ?_)
    · have e_x : x = saL Bk (Bk 4) 0 n 0 0 := h5_1
      subst e_x
      refine lv_aload_n hx hb dX0_stateAhead_89 rfl (lv_at hl 0 rfl) ?_
      refine va_get (D := D) (ci := 0) (C := RX0) (T := TX0) (N := 7) hx hb hW inX0 hown hK hP 0 rfl rfl 4 (by decide) (hW _ (wa tw182 rfl)) (fun _ h9 => h9) rfl dX0_stateAhead_90 ?_
      refine lv_iload_n hx hb dX0_stateAhead_93 rfl (lv_at hl 1 rfl) ?_
      refine xaaldI hx hb hK hP 5 rfl 0 (nI_lit 0) (by decide) (by decide) (b := (ab 6)) rfl dX0_stateAhead_94 ?_
      refine lv_iload_n hx hb dX0_stateAhead_95 rfl (lv_at hl 2 rfl) ?_
      refine xiald hx hb hK hP 6 rfl n rfl (by omega) (by decide) dX0_stateAhead_96 ?_
      refine lv_iconst (v := 1) hx hb dX0_stateAhead_97 (by decide) ?_
      refine lv_icmp_ne (tgt := 105) hx hb dX0_stateAhead_98 (by decide) (fun c_2 => ?_) (fun c_2 => ?_)
      · refine lv_iload_n hx hb dX0_stateAhead_105 rfl (lv_at hl 3 rfl) ?_
        exact W.iret (v := (saL Bk (Bk 4) 0 n 0 0)) hx hb hr (fun t ht _ => ⟨_, rfl, (by rw [f0_state, if_neg c_2]), ht⟩) (fun q h => by cases h) dX0_stateAhead_106
      · refine lv_iconst (v := 0) hx hb dX0_stateAhead_101 (by decide) ?_
        refine lv_goto (tgt := 106) hx hb dX0_stateAhead_102 (by decide) ?_
        exact W.iret (v := 0) hx hb hr (fun t ht _ => ⟨_, rfl, (by rw [f0_state, if_pos c_2]), ht⟩) (fun q h => by cases h) dX0_stateAhead_106
    · exact absurd (q_le rfl rfl (by omega) (by omega)) c_1
  | succ n5 ih5 =>
    obtain ⟨h5_0, h5_1, hl⟩ := hinv
    refine lv_iload hx hb dX0_stateAhead_5 (lv_at hl 4 rfl) ?_
    refine lv_iload_n hx hb dX0_stateAhead_7 rfl (lv_at hl 2 rfl) ?_
    refine lv_icmp_ge (tgt := 89) hx hb dX0_stateAhead_8 (by decide) (fun c_3 => ?_) (fun c_3 => ?_)
    · exact absurd c_3 (q_nle rfl rfl (by omega) (by omega))
    · refine lv_aload_n hx hb dX0_stateAhead_11 rfl (lv_at hl 0 rfl) ?_
      refine va_get (D := D) (ci := 0) (C := RX0) (T := TX0) (N := 7) hx hb hW inX0 hown hK hP 0 rfl rfl 4 (by decide) (hW _ (wa tw182 rfl)) (fun _ h9 => h9) rfl dX0_stateAhead_12 ?_
      refine lv_iload_n hx hb dX0_stateAhead_15 rfl (lv_at hl 1 rfl) ?_
      refine xaaldI hx hb hK hP 5 rfl 0 (nI_lit 0) (by decide) (by decide) (b := (ab 6)) rfl dX0_stateAhead_16 ?_
      refine lv_iload hx hb dX0_stateAhead_17 (lv_at hl 4 rfl) ?_
      refine xiald hx hb hK hP 6 rfl k rfl (by omega) (by decide) dX0_stateAhead_19 ?_
      refine lv_iconst (v := 1) hx hb dX0_stateAhead_20 (by decide) ?_
      refine lv_icmp_ne (tgt := 26) hx hb dX0_stateAhead_21 (by decide) (fun c_4 => ?_) (fun c_4 => ?_)
      · refine lv_aload_n hx hb dX0_stateAhead_26 rfl (lv_at hl 0 rfl) ?_
        refine va_get (D := D) (ci := 0) (C := RX0) (T := TX0) (N := 7) hx hb hW inX0 hown hK hP 0 rfl rfl 0 (by decide) (hW _ (wa tw178 rfl)) (fun _ h9 => h9) rfl dX0_stateAhead_27 ?_
        refine lv_iload hx hb dX0_stateAhead_30 (lv_at hl 4 rfl) ?_
        refine xiald hx hb hK hP 1 rfl k rfl (by omega) (by decide) dX0_stateAhead_32 ?_
        refine lv_iload_n hx hb dX0_stateAhead_33 rfl (lv_at hl 1 rfl) ?_
        refine lv_icmp_ne (tgt := 83) hx hb dX0_stateAhead_34 (by decide) (fun c_5 => ?_) (fun c_5 => ?_)
        · refine lv_iinc (v := nI k + 1) (lv' := [(4, .int (nI k + 1)), (0, .ref (ab 0)), (1, .int 0), (2, .int (nI n)), (3, .int x)]) hx hb dX0_stateAhead_83 hl (k := 4) rfl rfl (by decide) rfl (fun ls hl => ?_)
          refine lv_goto (tgt := 5) hx hb dX0_stateAhead_86 (by decide) ?_
          rw [nI_1] at hl
          exact ih5 (k := k + 1) (x := x) (ls := ls) ⟨by omega, by rw [← h5_1, saL]; simp only [saM, saU, if_neg c_4, if_neg c_5], lv_sub hl [1, 2, 3, 4, 0] rfl⟩
        · refine lv_aload_n hx hb dX0_stateAhead_37 rfl (lv_at hl 0 rfl) ?_
          refine va_get (D := D) (ci := 0) (C := RX0) (T := TX0) (N := 7) hx hb hW inX0 hown hK hP 0 rfl rfl 3 (by decide) (hW _ (wa tw181 rfl)) (fun _ h9 => h9) rfl dX0_stateAhead_38 ?_
          refine lv_iload hx hb dX0_stateAhead_41 (lv_at hl 4 rfl) ?_
          refine xzald hx hb hK hP 4 rfl k rfl (by omega) (by decide) dX0_stateAhead_43 ?_
          refine lv_if_eq (tgt := 83) hx hb dX0_stateAhead_44 (by decide) (fun c_6 => ?_) (fun c_6 => ?_)
          · refine lv_iinc (v := nI k + 1) (lv' := [(4, .int (nI k + 1)), (0, .ref (ab 0)), (1, .int 0), (2, .int (nI n)), (3, .int x)]) hx hb dX0_stateAhead_83 hl (k := 4) rfl rfl (by decide) rfl (fun ls hl => ?_)
            refine lv_goto (tgt := 5) hx hb dX0_stateAhead_86 (by decide) ?_
            rw [nI_1] at hl
            exact ih5 (k := k + 1) (x := x) (ls := ls) ⟨by omega, by rw [← h5_1, saL]; simp only [saM, saU, if_neg c_4, if_pos c_5, if_pos c_6], lv_sub hl [1, 2, 3, 4, 0] rfl⟩
          · refine lv_sipush (v := 1000) hx hb dX0_stateAhead_47 (by decide) ?_
            refine lv_aload_n hx hb dX0_stateAhead_50 rfl (lv_at hl 0 rfl) ?_
            refine va_get (D := D) (ci := 0) (C := RX0) (T := TX0) (N := 7) hx hb hW inX0 hown hK hP 0 rfl rfl 2 (by decide) (hW _ (wa tw180 rfl)) (fun _ h9 => h9) rfl dX0_stateAhead_51 ?_
            refine lv_iload hx hb dX0_stateAhead_54 (lv_at hl 4 rfl) ?_
            refine xiald hx hb hK hP 3 rfl k rfl (by omega) (by decide) dX0_stateAhead_56 ?_
            refine lv_aload_n hx hb dX0_stateAhead_57 rfl (lv_at hl 0 rfl) ?_
            refine va_get (D := D) (ci := 0) (C := RX0) (T := TX0) (N := 7) hx hb hW inX0 hown hK hP 0 rfl rfl 1 (by decide) (hW _ (wa tw179 rfl)) (fun _ h9 => h9) rfl dX0_stateAhead_58 ?_
            refine lv_iload hx hb dX0_stateAhead_61 (lv_at hl 4 rfl) ?_
            refine xiald hx hb hK hP 2 rfl k rfl (by omega) (by decide) dX0_stateAhead_63 ?_
            refine lv_isub hx hb dX0_stateAhead_64 ?_
            refine lv_imul hx hb dX0_stateAhead_65 ?_
            refine lv_istore (lv' := [(5, .int (1000 * (((Bk 2) k) - ((Bk 1) k)))), (0, .ref (ab 0)), (1, .int 0), (2, .int (nI n)), (3, .int x), (4, .int (nI k))]) hx hb dX0_stateAhead_66 hl (by decide) rfl (fun ls hl => ?_)
            refine lv_iload_n hx hb dX0_stateAhead_68 rfl (lv_at hl 4 rfl) ?_
            refine lv_aload_n hx hb dX0_stateAhead_69 rfl (lv_at hl 1 rfl) ?_
            refine va_get (D := D) (ci := 0) (C := RX0) (T := TX0) (N := 7) hx hb hW inX0 hown hK hP 0 rfl rfl 6 (by decide) (hW _ (wa tw185 rfl)) (fun _ h9 => h9) rfl dX0_stateAhead_70 ?_
            refine lv_iload hx hb dX0_stateAhead_73 (lv_at hl 0 rfl) ?_
            refine lv_iload_n hx hb dX0_stateAhead_75 rfl (lv_at hl 4 rfl) ?_
            refine lv_isub hx hb dX0_stateAhead_76 ?_
            refine lv_imul hx hb dX0_stateAhead_77 ?_
            refine lv_bipush (v := 16) hx hb dX0_stateAhead_78 (by decide) ?_
            refine lv_idiv hx hb dX0_stateAhead_80 (by decide) ?_
            refine lv_iadd hx hb dX0_stateAhead_81 ?_
            refine lv_istore_n (lv' := [(3, .int (x + (((Bk 8 1) * ((1000 * (((Bk 2) k) - ((Bk 1) k))) - x)) / 16))), (5, .int (1000 * (((Bk 2) k) - ((Bk 1) k)))), (0, .ref (ab 0)), (1, .int 0), (2, .int (nI n)), (4, .int (nI k))]) hx hb dX0_stateAhead_82 rfl hl (by decide) rfl (fun ls hl => ?_)
            refine lv_iinc (v := nI k + 1) (lv' := [(4, .int (nI k + 1)), (3, .int (x + (((Bk 8 1) * ((1000 * (((Bk 2) k) - ((Bk 1) k))) - x)) / 16))), (5, .int (1000 * (((Bk 2) k) - ((Bk 1) k)))), (0, .ref (ab 0)), (1, .int 0), (2, .int (nI n))]) hx hb dX0_stateAhead_83 hl (k := 5) rfl rfl (by decide) rfl (fun ls hl => ?_)
            refine lv_goto (tgt := 5) hx hb dX0_stateAhead_86 (by decide) ?_
            rw [nI_1] at hl
            exact ih5 (k := k + 1) (x := (x + (((Bk 8 1) * ((1000 * (((Bk 2) k) - ((Bk 1) k))) - x)) / 16))) (ls := ls) ⟨by omega, by rw [← h5_1, saL]; simp only [saM, saU, if_neg c_4, if_pos c_5, if_neg c_6], lv_sub hl [3, 4, 5, 1, 0] rfl⟩
      · refine lv_iconst (v := 0) hx hb dX0_stateAhead_24 (by decide) ?_
        refine lv_istore_n (lv' := [(3, .int 0), (0, .ref (ab 0)), (1, .int 0), (2, .int (nI n)), (4, .int (nI k))]) hx hb dX0_stateAhead_25 rfl hl (by decide) rfl (fun ls hl => ?_)
        refine lv_aload_n hx hb dX0_stateAhead_26 rfl (lv_at hl 1 rfl) ?_
        refine va_get (D := D) (ci := 0) (C := RX0) (T := TX0) (N := 7) hx hb hW inX0 hown hK hP 0 rfl rfl 0 (by decide) (hW _ (wa tw178 rfl)) (fun _ h9 => h9) rfl dX0_stateAhead_27 ?_
        refine lv_iload hx hb dX0_stateAhead_30 (lv_at hl 4 rfl) ?_
        refine xiald hx hb hK hP 1 rfl k rfl (by omega) (by decide) dX0_stateAhead_32 ?_
        refine lv_iload_n hx hb dX0_stateAhead_33 rfl (lv_at hl 2 rfl) ?_
        refine lv_icmp_ne (tgt := 83) hx hb dX0_stateAhead_34 (by decide) (fun c_7 => ?_) (fun c_7 => ?_)
        · refine lv_iinc (v := nI k + 1) (lv' := [(4, .int (nI k + 1)), (3, .int 0), (0, .ref (ab 0)), (1, .int 0), (2, .int (nI n))]) hx hb dX0_stateAhead_83 hl (k := 4) rfl rfl (by decide) rfl (fun ls hl => ?_)
          refine lv_goto (tgt := 5) hx hb dX0_stateAhead_86 (by decide) ?_
          rw [nI_1] at hl
          exact ih5 (k := k + 1) (x := 0) (ls := ls) ⟨by omega, by rw [← h5_1, saL]; simp only [saM, saU, if_pos c_4, if_neg c_7], lv_sub hl [2, 3, 4, 1, 0] rfl⟩
        · refine lv_aload_n hx hb dX0_stateAhead_37 rfl (lv_at hl 1 rfl) ?_
          refine va_get (D := D) (ci := 0) (C := RX0) (T := TX0) (N := 7) hx hb hW inX0 hown hK hP 0 rfl rfl 3 (by decide) (hW _ (wa tw181 rfl)) (fun _ h9 => h9) rfl dX0_stateAhead_38 ?_
          refine lv_iload hx hb dX0_stateAhead_41 (lv_at hl 4 rfl) ?_
          refine xzald hx hb hK hP 4 rfl k rfl (by omega) (by decide) dX0_stateAhead_43 ?_
          refine lv_if_eq (tgt := 83) hx hb dX0_stateAhead_44 (by decide) (fun c_8 => ?_) (fun c_8 => ?_)
          · refine lv_iinc (v := nI k + 1) (lv' := [(4, .int (nI k + 1)), (3, .int 0), (0, .ref (ab 0)), (1, .int 0), (2, .int (nI n))]) hx hb dX0_stateAhead_83 hl (k := 4) rfl rfl (by decide) rfl (fun ls hl => ?_)
            refine lv_goto (tgt := 5) hx hb dX0_stateAhead_86 (by decide) ?_
            rw [nI_1] at hl
            exact ih5 (k := k + 1) (x := 0) (ls := ls) ⟨by omega, by rw [← h5_1, saL]; simp only [saM, saU, if_pos c_4, if_pos c_7, if_pos c_8], lv_sub hl [2, 3, 4, 1, 0] rfl⟩
          · refine lv_sipush (v := 1000) hx hb dX0_stateAhead_47 (by decide) ?_
            refine lv_aload_n hx hb dX0_stateAhead_50 rfl (lv_at hl 1 rfl) ?_
            refine va_get (D := D) (ci := 0) (C := RX0) (T := TX0) (N := 7) hx hb hW inX0 hown hK hP 0 rfl rfl 2 (by decide) (hW _ (wa tw180 rfl)) (fun _ h9 => h9) rfl dX0_stateAhead_51 ?_
            refine lv_iload hx hb dX0_stateAhead_54 (lv_at hl 4 rfl) ?_
            refine xiald hx hb hK hP 3 rfl k rfl (by omega) (by decide) dX0_stateAhead_56 ?_
            refine lv_aload_n hx hb dX0_stateAhead_57 rfl (lv_at hl 1 rfl) ?_
            refine va_get (D := D) (ci := 0) (C := RX0) (T := TX0) (N := 7) hx hb hW inX0 hown hK hP 0 rfl rfl 1 (by decide) (hW _ (wa tw179 rfl)) (fun _ h9 => h9) rfl dX0_stateAhead_58 ?_
            refine lv_iload hx hb dX0_stateAhead_61 (lv_at hl 4 rfl) ?_
            refine xiald hx hb hK hP 2 rfl k rfl (by omega) (by decide) dX0_stateAhead_63 ?_
            refine lv_isub hx hb dX0_stateAhead_64 ?_
            refine lv_imul hx hb dX0_stateAhead_65 ?_
            refine lv_istore (lv' := [(5, .int (1000 * (((Bk 2) k) - ((Bk 1) k)))), (3, .int 0), (0, .ref (ab 0)), (1, .int 0), (2, .int (nI n)), (4, .int (nI k))]) hx hb dX0_stateAhead_66 hl (by decide) rfl (fun ls hl => ?_)
            refine lv_iload_n hx hb dX0_stateAhead_68 rfl (lv_at hl 1 rfl) ?_
            refine lv_aload_n hx hb dX0_stateAhead_69 rfl (lv_at hl 2 rfl) ?_
            refine va_get (D := D) (ci := 0) (C := RX0) (T := TX0) (N := 7) hx hb hW inX0 hown hK hP 0 rfl rfl 6 (by decide) (hW _ (wa tw185 rfl)) (fun _ h9 => h9) rfl dX0_stateAhead_70 ?_
            refine lv_iload hx hb dX0_stateAhead_73 (lv_at hl 0 rfl) ?_
            refine lv_iload_n hx hb dX0_stateAhead_75 rfl (lv_at hl 1 rfl) ?_
            refine lv_isub hx hb dX0_stateAhead_76 ?_
            refine lv_imul hx hb dX0_stateAhead_77 ?_
            refine lv_bipush (v := 16) hx hb dX0_stateAhead_78 (by decide) ?_
            refine lv_idiv hx hb dX0_stateAhead_80 (by decide) ?_
            refine lv_iadd hx hb dX0_stateAhead_81 ?_
            refine lv_istore_n (lv' := [(3, .int (0 + (((Bk 8 1) * ((1000 * (((Bk 2) k) - ((Bk 1) k))) - 0)) / 16))), (5, .int (1000 * (((Bk 2) k) - ((Bk 1) k)))), (0, .ref (ab 0)), (1, .int 0), (2, .int (nI n)), (4, .int (nI k))]) hx hb dX0_stateAhead_82 rfl hl (by decide) rfl (fun ls hl => ?_)
            refine lv_iinc (v := nI k + 1) (lv' := [(4, .int (nI k + 1)), (3, .int (0 + (((Bk 8 1) * ((1000 * (((Bk 2) k) - ((Bk 1) k))) - 0)) / 16))), (5, .int (1000 * (((Bk 2) k) - ((Bk 1) k)))), (0, .ref (ab 0)), (1, .int 0), (2, .int (nI n))]) hx hb dX0_stateAhead_83 hl (k := 5) rfl rfl (by decide) rfl (fun ls hl => ?_)
            refine lv_goto (tgt := 5) hx hb dX0_stateAhead_86 (by decide) ?_
            rw [nI_1] at hl
            exact ih5 (k := k + 1) (x := (0 + (((Bk 8 1) * ((1000 * (((Bk 2) k) - ((Bk 1) k))) - 0)) / 16))) (ls := ls) ⟨by omega, by rw [← h5_1, saL]; simp only [saM, saU, if_pos c_4, if_pos c_7, if_neg c_8], lv_sub hl [3, 4, 5, 1, 0] rfl⟩

set_option maxHeartbeats 4000000 in
set_option maxRecDepth 100000 in
theorem kX0_stateAhead_1 (l : Launch) (D : va_G) (C : Nat → ClassId) (ab : Nat → Nat) (Bk : Nat → Nat → Int32) (n : Nat) (hn60 : n ≤ 60) : Ri l D C yX0_stateAhead cX0_stateAhead 6 .int 0 [.ref (ab 0), .int 1, .int (nI n)] (wB ab C Bk) (f0_state Bk (Bk 5) 1 n) := by
  refine Met.ofW (cc := cX0_stateAhead) (maxL := 6) (ret := (some .int)) (by decide) rfl ?_
  intro p e s m args below meth c s₁ B hml hv
  obtain ⟨rfl, hP, hK, hNw⟩ := hv
  have hx := B.exec
  have hb := B.bytes
  have hr := B.returns
  have hts := atoms_spec (ws := wm yX0_stateAhead cX0_stateAhead 6 (some .int)) B.pre
  have hown : s.vm.findClass RX0 = some m.cls := findClass_of_methodNamed B.named
  have hlocks := B.notSynchronized
  have hW : ∀ w ∈ WA, w.before _ s = true := fun w h => hts w (List.mem_cons_of_mem _ h)
  have hP : va_P D vwCl [((ab 0), .inr (0, [.ref (ab 1), .ref (ab 2), .ref (ab 3), .ref (ab 4), .ref (ab 5), .int (Bk 8 0), .int (Bk 8 1)])), ((ab 1), eI C 60 (Bk 0)), ((ab 2), eI C 60 (Bk 1)), ((ab 3), eI C 60 (Bk 2)), ((ab 4), eZ C 60 (Bk 3)), ((ab 5), eII C 4 (rr ab 6 4)), ((ab 6), eI C 61 (Bk 4)), ((ab 7), eI C 61 (Bk 5)), ((ab 8), eI C 61 (Bk 6)), ((ab 9), eI C 61 (Bk 7))] s.heap := hP
  have hl := lv_entry ([.ref (ab 0), .int 1, .int (nI n)]) (n := 6) (Nat.le_of_ble_eq_true rfl)
  rw [lg_entry_eq]
  generalize (lg_sl ([.ref (ab 0), .int 1, .int (nI n)]) ++ List.replicate (6 - (lg_sl ([.ref (ab 0), .int 1, .int (nI n)])).length) Slot.unset).toArray = ls at hl ⊢
  have hl : lv_has ls 6 [(0, .ref (ab 0)), (1, .int 1), (2, .int (nI n))] := hl
  refine lv_iconst (v := 0) hx hb dX0_stateAhead_0 (by decide) ?_
  refine lv_istore_n (lv' := [(3, .int 0), (0, .ref (ab 0)), (1, .int 1), (2, .int (nI n))]) hx hb dX0_stateAhead_1 rfl hl (by decide) rfl (fun ls hl => ?_)
  refine lv_iconst (v := 0) hx hb dX0_stateAhead_2 (by decide) ?_
  refine lv_istore (lv' := [(4, .int 0), (3, .int 0), (0, .ref (ab 0)), (1, .int 1), (2, .int (nI n))]) hx hb dX0_stateAhead_3 hl (by decide) rfl (fun ls hl => ?_)
  obtain ⟨n5, k, x, hinv⟩ : ∃ (n5 : Nat) (k : Nat) (x : Int32), (k + n5 = n) ∧ (saL Bk (Bk 5) 1 n5 k x = saL Bk (Bk 5) 1 n 0 0) ∧ lv_has ls 6 [(0, .ref (ab 0)), (1, .int 1), (2, .int (nI n)), (3, .int x), (4, .int (nI k))] := ⟨n, 0, 0, by omega, rfl, lv_sub hl [2, 3, 4, 1, 0] rfl⟩
  clear hl
  induction n5 generalizing k x ls with
  | zero =>
    obtain ⟨h5_0, h5_1, hl⟩ := hinv
    refine lv_iload hx hb dX0_stateAhead_5 (lv_at hl 4 rfl) ?_
    refine lv_iload_n hx hb dX0_stateAhead_7 rfl (lv_at hl 2 rfl) ?_
    refine lv_icmp_ge (tgt := 89) hx hb dX0_stateAhead_8 (by decide) (fun c_1 => ?_) (fun c_1 => ?_)
    · have e_x : x = saL Bk (Bk 5) 1 n 0 0 := h5_1
      subst e_x
      refine lv_aload_n hx hb dX0_stateAhead_89 rfl (lv_at hl 0 rfl) ?_
      refine va_get (D := D) (ci := 0) (C := RX0) (T := TX0) (N := 7) hx hb hW inX0 hown hK hP 0 rfl rfl 4 (by decide) (hW _ (wa tw182 rfl)) (fun _ h9 => h9) rfl dX0_stateAhead_90 ?_
      refine lv_iload_n hx hb dX0_stateAhead_93 rfl (lv_at hl 1 rfl) ?_
      refine xaaldI hx hb hK hP 5 rfl 1 (nI_lit 1) (by decide) (by decide) (b := (ab 7)) rfl dX0_stateAhead_94 ?_
      refine lv_iload_n hx hb dX0_stateAhead_95 rfl (lv_at hl 2 rfl) ?_
      refine xiald hx hb hK hP 7 rfl n rfl (by omega) (by decide) dX0_stateAhead_96 ?_
      refine lv_iconst (v := 1) hx hb dX0_stateAhead_97 (by decide) ?_
      refine lv_icmp_ne (tgt := 105) hx hb dX0_stateAhead_98 (by decide) (fun c_2 => ?_) (fun c_2 => ?_)
      · refine lv_iload_n hx hb dX0_stateAhead_105 rfl (lv_at hl 3 rfl) ?_
        exact W.iret (v := (saL Bk (Bk 5) 1 n 0 0)) hx hb hr (fun t ht _ => ⟨_, rfl, (by rw [f0_state, if_neg c_2]), ht⟩) (fun q h => by cases h) dX0_stateAhead_106
      · refine lv_iconst (v := 0) hx hb dX0_stateAhead_101 (by decide) ?_
        refine lv_goto (tgt := 106) hx hb dX0_stateAhead_102 (by decide) ?_
        exact W.iret (v := 0) hx hb hr (fun t ht _ => ⟨_, rfl, (by rw [f0_state, if_pos c_2]), ht⟩) (fun q h => by cases h) dX0_stateAhead_106
    · exact absurd (q_le rfl rfl (by omega) (by omega)) c_1
  | succ n5 ih5 =>
    obtain ⟨h5_0, h5_1, hl⟩ := hinv
    refine lv_iload hx hb dX0_stateAhead_5 (lv_at hl 4 rfl) ?_
    refine lv_iload_n hx hb dX0_stateAhead_7 rfl (lv_at hl 2 rfl) ?_
    refine lv_icmp_ge (tgt := 89) hx hb dX0_stateAhead_8 (by decide) (fun c_3 => ?_) (fun c_3 => ?_)
    · exact absurd c_3 (q_nle rfl rfl (by omega) (by omega))
    · refine lv_aload_n hx hb dX0_stateAhead_11 rfl (lv_at hl 0 rfl) ?_
      refine va_get (D := D) (ci := 0) (C := RX0) (T := TX0) (N := 7) hx hb hW inX0 hown hK hP 0 rfl rfl 4 (by decide) (hW _ (wa tw182 rfl)) (fun _ h9 => h9) rfl dX0_stateAhead_12 ?_
      refine lv_iload_n hx hb dX0_stateAhead_15 rfl (lv_at hl 1 rfl) ?_
      refine xaaldI hx hb hK hP 5 rfl 1 (nI_lit 1) (by decide) (by decide) (b := (ab 7)) rfl dX0_stateAhead_16 ?_
      refine lv_iload hx hb dX0_stateAhead_17 (lv_at hl 4 rfl) ?_
      refine xiald hx hb hK hP 7 rfl k rfl (by omega) (by decide) dX0_stateAhead_19 ?_
      refine lv_iconst (v := 1) hx hb dX0_stateAhead_20 (by decide) ?_
      refine lv_icmp_ne (tgt := 26) hx hb dX0_stateAhead_21 (by decide) (fun c_4 => ?_) (fun c_4 => ?_)
      · refine lv_aload_n hx hb dX0_stateAhead_26 rfl (lv_at hl 0 rfl) ?_
        refine va_get (D := D) (ci := 0) (C := RX0) (T := TX0) (N := 7) hx hb hW inX0 hown hK hP 0 rfl rfl 0 (by decide) (hW _ (wa tw178 rfl)) (fun _ h9 => h9) rfl dX0_stateAhead_27 ?_
        refine lv_iload hx hb dX0_stateAhead_30 (lv_at hl 4 rfl) ?_
        refine xiald hx hb hK hP 1 rfl k rfl (by omega) (by decide) dX0_stateAhead_32 ?_
        refine lv_iload_n hx hb dX0_stateAhead_33 rfl (lv_at hl 1 rfl) ?_
        refine lv_icmp_ne (tgt := 83) hx hb dX0_stateAhead_34 (by decide) (fun c_5 => ?_) (fun c_5 => ?_)
        · refine lv_iinc (v := nI k + 1) (lv' := [(4, .int (nI k + 1)), (0, .ref (ab 0)), (1, .int 1), (2, .int (nI n)), (3, .int x)]) hx hb dX0_stateAhead_83 hl (k := 4) rfl rfl (by decide) rfl (fun ls hl => ?_)
          refine lv_goto (tgt := 5) hx hb dX0_stateAhead_86 (by decide) ?_
          rw [nI_1] at hl
          exact ih5 (k := k + 1) (x := x) (ls := ls) ⟨by omega, by rw [← h5_1, saL]; simp only [saM, saU, if_neg c_4, if_neg c_5], lv_sub hl [1, 2, 3, 4, 0] rfl⟩
        · refine lv_aload_n hx hb dX0_stateAhead_37 rfl (lv_at hl 0 rfl) ?_
          refine va_get (D := D) (ci := 0) (C := RX0) (T := TX0) (N := 7) hx hb hW inX0 hown hK hP 0 rfl rfl 3 (by decide) (hW _ (wa tw181 rfl)) (fun _ h9 => h9) rfl dX0_stateAhead_38 ?_
          refine lv_iload hx hb dX0_stateAhead_41 (lv_at hl 4 rfl) ?_
          refine xzald hx hb hK hP 4 rfl k rfl (by omega) (by decide) dX0_stateAhead_43 ?_
          refine lv_if_eq (tgt := 83) hx hb dX0_stateAhead_44 (by decide) (fun c_6 => ?_) (fun c_6 => ?_)
          · refine lv_iinc (v := nI k + 1) (lv' := [(4, .int (nI k + 1)), (0, .ref (ab 0)), (1, .int 1), (2, .int (nI n)), (3, .int x)]) hx hb dX0_stateAhead_83 hl (k := 4) rfl rfl (by decide) rfl (fun ls hl => ?_)
            refine lv_goto (tgt := 5) hx hb dX0_stateAhead_86 (by decide) ?_
            rw [nI_1] at hl
            exact ih5 (k := k + 1) (x := x) (ls := ls) ⟨by omega, by rw [← h5_1, saL]; simp only [saM, saU, if_neg c_4, if_pos c_5, if_pos c_6], lv_sub hl [1, 2, 3, 4, 0] rfl⟩
          · refine lv_sipush (v := 1000) hx hb dX0_stateAhead_47 (by decide) ?_
            refine lv_aload_n hx hb dX0_stateAhead_50 rfl (lv_at hl 0 rfl) ?_
            refine va_get (D := D) (ci := 0) (C := RX0) (T := TX0) (N := 7) hx hb hW inX0 hown hK hP 0 rfl rfl 2 (by decide) (hW _ (wa tw180 rfl)) (fun _ h9 => h9) rfl dX0_stateAhead_51 ?_
            refine lv_iload hx hb dX0_stateAhead_54 (lv_at hl 4 rfl) ?_
            refine xiald hx hb hK hP 3 rfl k rfl (by omega) (by decide) dX0_stateAhead_56 ?_
            refine lv_aload_n hx hb dX0_stateAhead_57 rfl (lv_at hl 0 rfl) ?_
            refine va_get (D := D) (ci := 0) (C := RX0) (T := TX0) (N := 7) hx hb hW inX0 hown hK hP 0 rfl rfl 1 (by decide) (hW _ (wa tw179 rfl)) (fun _ h9 => h9) rfl dX0_stateAhead_58 ?_
            refine lv_iload hx hb dX0_stateAhead_61 (lv_at hl 4 rfl) ?_
            refine xiald hx hb hK hP 2 rfl k rfl (by omega) (by decide) dX0_stateAhead_63 ?_
            refine lv_isub hx hb dX0_stateAhead_64 ?_
            refine lv_imul hx hb dX0_stateAhead_65 ?_
            refine lv_istore (lv' := [(5, .int (1000 * (((Bk 2) k) - ((Bk 1) k)))), (0, .ref (ab 0)), (1, .int 1), (2, .int (nI n)), (3, .int x), (4, .int (nI k))]) hx hb dX0_stateAhead_66 hl (by decide) rfl (fun ls hl => ?_)
            refine lv_iload_n hx hb dX0_stateAhead_68 rfl (lv_at hl 4 rfl) ?_
            refine lv_aload_n hx hb dX0_stateAhead_69 rfl (lv_at hl 1 rfl) ?_
            refine va_get (D := D) (ci := 0) (C := RX0) (T := TX0) (N := 7) hx hb hW inX0 hown hK hP 0 rfl rfl 6 (by decide) (hW _ (wa tw185 rfl)) (fun _ h9 => h9) rfl dX0_stateAhead_70 ?_
            refine lv_iload hx hb dX0_stateAhead_73 (lv_at hl 0 rfl) ?_
            refine lv_iload_n hx hb dX0_stateAhead_75 rfl (lv_at hl 4 rfl) ?_
            refine lv_isub hx hb dX0_stateAhead_76 ?_
            refine lv_imul hx hb dX0_stateAhead_77 ?_
            refine lv_bipush (v := 16) hx hb dX0_stateAhead_78 (by decide) ?_
            refine lv_idiv hx hb dX0_stateAhead_80 (by decide) ?_
            refine lv_iadd hx hb dX0_stateAhead_81 ?_
            refine lv_istore_n (lv' := [(3, .int (x + (((Bk 8 1) * ((1000 * (((Bk 2) k) - ((Bk 1) k))) - x)) / 16))), (5, .int (1000 * (((Bk 2) k) - ((Bk 1) k)))), (0, .ref (ab 0)), (1, .int 1), (2, .int (nI n)), (4, .int (nI k))]) hx hb dX0_stateAhead_82 rfl hl (by decide) rfl (fun ls hl => ?_)
            refine lv_iinc (v := nI k + 1) (lv' := [(4, .int (nI k + 1)), (3, .int (x + (((Bk 8 1) * ((1000 * (((Bk 2) k) - ((Bk 1) k))) - x)) / 16))), (5, .int (1000 * (((Bk 2) k) - ((Bk 1) k)))), (0, .ref (ab 0)), (1, .int 1), (2, .int (nI n))]) hx hb dX0_stateAhead_83 hl (k := 5) rfl rfl (by decide) rfl (fun ls hl => ?_)
            refine lv_goto (tgt := 5) hx hb dX0_stateAhead_86 (by decide) ?_
            rw [nI_1] at hl
            exact ih5 (k := k + 1) (x := (x + (((Bk 8 1) * ((1000 * (((Bk 2) k) - ((Bk 1) k))) - x)) / 16))) (ls := ls) ⟨by omega, by rw [← h5_1, saL]; simp only [saM, saU, if_neg c_4, if_pos c_5, if_neg c_6], lv_sub hl [3, 4, 5, 1, 0] rfl⟩
      · refine lv_iconst (v := 0) hx hb dX0_stateAhead_24 (by decide) ?_
        refine lv_istore_n (lv' := [(3, .int 0), (0, .ref (ab 0)), (1, .int 1), (2, .int (nI n)), (4, .int (nI k))]) hx hb dX0_stateAhead_25 rfl hl (by decide) rfl (fun ls hl => ?_)
        refine lv_aload_n hx hb dX0_stateAhead_26 rfl (lv_at hl 1 rfl) ?_
        refine va_get (D := D) (ci := 0) (C := RX0) (T := TX0) (N := 7) hx hb hW inX0 hown hK hP 0 rfl rfl 0 (by decide) (hW _ (wa tw178 rfl)) (fun _ h9 => h9) rfl dX0_stateAhead_27 ?_
        refine lv_iload hx hb dX0_stateAhead_30 (lv_at hl 4 rfl) ?_
        refine xiald hx hb hK hP 1 rfl k rfl (by omega) (by decide) dX0_stateAhead_32 ?_
        refine lv_iload_n hx hb dX0_stateAhead_33 rfl (lv_at hl 2 rfl) ?_
        refine lv_icmp_ne (tgt := 83) hx hb dX0_stateAhead_34 (by decide) (fun c_7 => ?_) (fun c_7 => ?_)
        · refine lv_iinc (v := nI k + 1) (lv' := [(4, .int (nI k + 1)), (3, .int 0), (0, .ref (ab 0)), (1, .int 1), (2, .int (nI n))]) hx hb dX0_stateAhead_83 hl (k := 4) rfl rfl (by decide) rfl (fun ls hl => ?_)
          refine lv_goto (tgt := 5) hx hb dX0_stateAhead_86 (by decide) ?_
          rw [nI_1] at hl
          exact ih5 (k := k + 1) (x := 0) (ls := ls) ⟨by omega, by rw [← h5_1, saL]; simp only [saM, saU, if_pos c_4, if_neg c_7], lv_sub hl [2, 3, 4, 1, 0] rfl⟩
        · refine lv_aload_n hx hb dX0_stateAhead_37 rfl (lv_at hl 1 rfl) ?_
          refine va_get (D := D) (ci := 0) (C := RX0) (T := TX0) (N := 7) hx hb hW inX0 hown hK hP 0 rfl rfl 3 (by decide) (hW _ (wa tw181 rfl)) (fun _ h9 => h9) rfl dX0_stateAhead_38 ?_
          refine lv_iload hx hb dX0_stateAhead_41 (lv_at hl 4 rfl) ?_
          refine xzald hx hb hK hP 4 rfl k rfl (by omega) (by decide) dX0_stateAhead_43 ?_
          refine lv_if_eq (tgt := 83) hx hb dX0_stateAhead_44 (by decide) (fun c_8 => ?_) (fun c_8 => ?_)
          · refine lv_iinc (v := nI k + 1) (lv' := [(4, .int (nI k + 1)), (3, .int 0), (0, .ref (ab 0)), (1, .int 1), (2, .int (nI n))]) hx hb dX0_stateAhead_83 hl (k := 4) rfl rfl (by decide) rfl (fun ls hl => ?_)
            refine lv_goto (tgt := 5) hx hb dX0_stateAhead_86 (by decide) ?_
            rw [nI_1] at hl
            exact ih5 (k := k + 1) (x := 0) (ls := ls) ⟨by omega, by rw [← h5_1, saL]; simp only [saM, saU, if_pos c_4, if_pos c_7, if_pos c_8], lv_sub hl [2, 3, 4, 1, 0] rfl⟩
          · refine lv_sipush (v := 1000) hx hb dX0_stateAhead_47 (by decide) ?_
            refine lv_aload_n hx hb dX0_stateAhead_50 rfl (lv_at hl 1 rfl) ?_
            refine va_get (D := D) (ci := 0) (C := RX0) (T := TX0) (N := 7) hx hb hW inX0 hown hK hP 0 rfl rfl 2 (by decide) (hW _ (wa tw180 rfl)) (fun _ h9 => h9) rfl dX0_stateAhead_51 ?_
            refine lv_iload hx hb dX0_stateAhead_54 (lv_at hl 4 rfl) ?_
            refine xiald hx hb hK hP 3 rfl k rfl (by omega) (by decide) dX0_stateAhead_56 ?_
            refine lv_aload_n hx hb dX0_stateAhead_57 rfl (lv_at hl 1 rfl) ?_
            refine va_get (D := D) (ci := 0) (C := RX0) (T := TX0) (N := 7) hx hb hW inX0 hown hK hP 0 rfl rfl 1 (by decide) (hW _ (wa tw179 rfl)) (fun _ h9 => h9) rfl dX0_stateAhead_58 ?_
            refine lv_iload hx hb dX0_stateAhead_61 (lv_at hl 4 rfl) ?_
            refine xiald hx hb hK hP 2 rfl k rfl (by omega) (by decide) dX0_stateAhead_63 ?_
            refine lv_isub hx hb dX0_stateAhead_64 ?_
            refine lv_imul hx hb dX0_stateAhead_65 ?_
            refine lv_istore (lv' := [(5, .int (1000 * (((Bk 2) k) - ((Bk 1) k)))), (3, .int 0), (0, .ref (ab 0)), (1, .int 1), (2, .int (nI n)), (4, .int (nI k))]) hx hb dX0_stateAhead_66 hl (by decide) rfl (fun ls hl => ?_)
            refine lv_iload_n hx hb dX0_stateAhead_68 rfl (lv_at hl 1 rfl) ?_
            refine lv_aload_n hx hb dX0_stateAhead_69 rfl (lv_at hl 2 rfl) ?_
            refine va_get (D := D) (ci := 0) (C := RX0) (T := TX0) (N := 7) hx hb hW inX0 hown hK hP 0 rfl rfl 6 (by decide) (hW _ (wa tw185 rfl)) (fun _ h9 => h9) rfl dX0_stateAhead_70 ?_
            refine lv_iload hx hb dX0_stateAhead_73 (lv_at hl 0 rfl) ?_
            refine lv_iload_n hx hb dX0_stateAhead_75 rfl (lv_at hl 1 rfl) ?_
            refine lv_isub hx hb dX0_stateAhead_76 ?_
            refine lv_imul hx hb dX0_stateAhead_77 ?_
            refine lv_bipush (v := 16) hx hb dX0_stateAhead_78 (by decide) ?_
            refine lv_idiv hx hb dX0_stateAhead_80 (by decide) ?_
            refine lv_iadd hx hb dX0_stateAhead_81 ?_
            refine lv_istore_n (lv' := [(3, .int (0 + (((Bk 8 1) * ((1000 * (((Bk 2) k) - ((Bk 1) k))) - 0)) / 16))), (5, .int (1000 * (((Bk 2) k) - ((Bk 1) k)))), (0, .ref (ab 0)), (1, .int 1), (2, .int (nI n)), (4, .int (nI k))]) hx hb dX0_stateAhead_82 rfl hl (by decide) rfl (fun ls hl => ?_)
            refine lv_iinc (v := nI k + 1) (lv' := [(4, .int (nI k + 1)), (3, .int (0 + (((Bk 8 1) * ((1000 * (((Bk 2) k) - ((Bk 1) k))) - 0)) / 16))), (5, .int (1000 * (((Bk 2) k) - ((Bk 1) k)))), (0, .ref (ab 0)), (1, .int 1), (2, .int (nI n))]) hx hb dX0_stateAhead_83 hl (k := 5) rfl rfl (by decide) rfl (fun ls hl => ?_)
            refine lv_goto (tgt := 5) hx hb dX0_stateAhead_86 (by decide) ?_
            rw [nI_1] at hl
            exact ih5 (k := k + 1) (x := (0 + (((Bk 8 1) * ((1000 * (((Bk 2) k) - ((Bk 1) k))) - 0)) / 16))) (ls := ls) ⟨by omega, by rw [← h5_1, saL]; simp only [saM, saU, if_pos c_4, if_pos c_7, if_neg c_8], lv_sub hl [3, 4, 5, 1, 0] rfl⟩

set_option maxHeartbeats 4000000 in
set_option maxRecDepth 100000 in
theorem kX0_stateAhead_2 (l : Launch) (D : va_G) (C : Nat → ClassId) (ab : Nat → Nat) (Bk : Nat → Nat → Int32) (n : Nat) (hn60 : n ≤ 60) : Ri l D C yX0_stateAhead cX0_stateAhead 6 .int 0 [.ref (ab 0), .int 2, .int (nI n)] (wB ab C Bk) (f0_state Bk (Bk 6) 2 n) := by
  refine Met.ofW (cc := cX0_stateAhead) (maxL := 6) (ret := (some .int)) (by decide) rfl ?_
  intro p e s m args below meth c s₁ B hml hv
  obtain ⟨rfl, hP, hK, hNw⟩ := hv
  have hx := B.exec
  have hb := B.bytes
  have hr := B.returns
  have hts := atoms_spec (ws := wm yX0_stateAhead cX0_stateAhead 6 (some .int)) B.pre
  have hown : s.vm.findClass RX0 = some m.cls := findClass_of_methodNamed B.named
  have hlocks := B.notSynchronized
  have hW : ∀ w ∈ WA, w.before _ s = true := fun w h => hts w (List.mem_cons_of_mem _ h)
  have hP : va_P D vwCl [((ab 0), .inr (0, [.ref (ab 1), .ref (ab 2), .ref (ab 3), .ref (ab 4), .ref (ab 5), .int (Bk 8 0), .int (Bk 8 1)])), ((ab 1), eI C 60 (Bk 0)), ((ab 2), eI C 60 (Bk 1)), ((ab 3), eI C 60 (Bk 2)), ((ab 4), eZ C 60 (Bk 3)), ((ab 5), eII C 4 (rr ab 6 4)), ((ab 6), eI C 61 (Bk 4)), ((ab 7), eI C 61 (Bk 5)), ((ab 8), eI C 61 (Bk 6)), ((ab 9), eI C 61 (Bk 7))] s.heap := hP
  have hl := lv_entry ([.ref (ab 0), .int 2, .int (nI n)]) (n := 6) (Nat.le_of_ble_eq_true rfl)
  rw [lg_entry_eq]
  generalize (lg_sl ([.ref (ab 0), .int 2, .int (nI n)]) ++ List.replicate (6 - (lg_sl ([.ref (ab 0), .int 2, .int (nI n)])).length) Slot.unset).toArray = ls at hl ⊢
  have hl : lv_has ls 6 [(0, .ref (ab 0)), (1, .int 2), (2, .int (nI n))] := hl
  refine lv_iconst (v := 0) hx hb dX0_stateAhead_0 (by decide) ?_
  refine lv_istore_n (lv' := [(3, .int 0), (0, .ref (ab 0)), (1, .int 2), (2, .int (nI n))]) hx hb dX0_stateAhead_1 rfl hl (by decide) rfl (fun ls hl => ?_)
  refine lv_iconst (v := 0) hx hb dX0_stateAhead_2 (by decide) ?_
  refine lv_istore (lv' := [(4, .int 0), (3, .int 0), (0, .ref (ab 0)), (1, .int 2), (2, .int (nI n))]) hx hb dX0_stateAhead_3 hl (by decide) rfl (fun ls hl => ?_)
  obtain ⟨n5, k, x, hinv⟩ : ∃ (n5 : Nat) (k : Nat) (x : Int32), (k + n5 = n) ∧ (saL Bk (Bk 6) 2 n5 k x = saL Bk (Bk 6) 2 n 0 0) ∧ lv_has ls 6 [(0, .ref (ab 0)), (1, .int 2), (2, .int (nI n)), (3, .int x), (4, .int (nI k))] := ⟨n, 0, 0, by omega, rfl, lv_sub hl [2, 3, 4, 1, 0] rfl⟩
  clear hl
  induction n5 generalizing k x ls with
  | zero =>
    obtain ⟨h5_0, h5_1, hl⟩ := hinv
    refine lv_iload hx hb dX0_stateAhead_5 (lv_at hl 4 rfl) ?_
    refine lv_iload_n hx hb dX0_stateAhead_7 rfl (lv_at hl 2 rfl) ?_
    refine lv_icmp_ge (tgt := 89) hx hb dX0_stateAhead_8 (by decide) (fun c_1 => ?_) (fun c_1 => ?_)
    · have e_x : x = saL Bk (Bk 6) 2 n 0 0 := h5_1
      subst e_x
      refine lv_aload_n hx hb dX0_stateAhead_89 rfl (lv_at hl 0 rfl) ?_
      refine va_get (D := D) (ci := 0) (C := RX0) (T := TX0) (N := 7) hx hb hW inX0 hown hK hP 0 rfl rfl 4 (by decide) (hW _ (wa tw182 rfl)) (fun _ h9 => h9) rfl dX0_stateAhead_90 ?_
      refine lv_iload_n hx hb dX0_stateAhead_93 rfl (lv_at hl 1 rfl) ?_
      refine xaaldI hx hb hK hP 5 rfl 2 (nI_lit 2) (by decide) (by decide) (b := (ab 8)) rfl dX0_stateAhead_94 ?_
      refine lv_iload_n hx hb dX0_stateAhead_95 rfl (lv_at hl 2 rfl) ?_
      refine xiald hx hb hK hP 8 rfl n rfl (by omega) (by decide) dX0_stateAhead_96 ?_
      refine lv_iconst (v := 1) hx hb dX0_stateAhead_97 (by decide) ?_
      refine lv_icmp_ne (tgt := 105) hx hb dX0_stateAhead_98 (by decide) (fun c_2 => ?_) (fun c_2 => ?_)
      · refine lv_iload_n hx hb dX0_stateAhead_105 rfl (lv_at hl 3 rfl) ?_
        exact W.iret (v := (saL Bk (Bk 6) 2 n 0 0)) hx hb hr (fun t ht _ => ⟨_, rfl, (by rw [f0_state, if_neg c_2]), ht⟩) (fun q h => by cases h) dX0_stateAhead_106
      · refine lv_iconst (v := 0) hx hb dX0_stateAhead_101 (by decide) ?_
        refine lv_goto (tgt := 106) hx hb dX0_stateAhead_102 (by decide) ?_
        exact W.iret (v := 0) hx hb hr (fun t ht _ => ⟨_, rfl, (by rw [f0_state, if_pos c_2]), ht⟩) (fun q h => by cases h) dX0_stateAhead_106
    · exact absurd (q_le rfl rfl (by omega) (by omega)) c_1
  | succ n5 ih5 =>
    obtain ⟨h5_0, h5_1, hl⟩ := hinv
    refine lv_iload hx hb dX0_stateAhead_5 (lv_at hl 4 rfl) ?_
    refine lv_iload_n hx hb dX0_stateAhead_7 rfl (lv_at hl 2 rfl) ?_
    refine lv_icmp_ge (tgt := 89) hx hb dX0_stateAhead_8 (by decide) (fun c_3 => ?_) (fun c_3 => ?_)
    · exact absurd c_3 (q_nle rfl rfl (by omega) (by omega))
    · refine lv_aload_n hx hb dX0_stateAhead_11 rfl (lv_at hl 0 rfl) ?_
      refine va_get (D := D) (ci := 0) (C := RX0) (T := TX0) (N := 7) hx hb hW inX0 hown hK hP 0 rfl rfl 4 (by decide) (hW _ (wa tw182 rfl)) (fun _ h9 => h9) rfl dX0_stateAhead_12 ?_
      refine lv_iload_n hx hb dX0_stateAhead_15 rfl (lv_at hl 1 rfl) ?_
      refine xaaldI hx hb hK hP 5 rfl 2 (nI_lit 2) (by decide) (by decide) (b := (ab 8)) rfl dX0_stateAhead_16 ?_
      refine lv_iload hx hb dX0_stateAhead_17 (lv_at hl 4 rfl) ?_
      refine xiald hx hb hK hP 8 rfl k rfl (by omega) (by decide) dX0_stateAhead_19 ?_
      refine lv_iconst (v := 1) hx hb dX0_stateAhead_20 (by decide) ?_
      refine lv_icmp_ne (tgt := 26) hx hb dX0_stateAhead_21 (by decide) (fun c_4 => ?_) (fun c_4 => ?_)
      · refine lv_aload_n hx hb dX0_stateAhead_26 rfl (lv_at hl 0 rfl) ?_
        refine va_get (D := D) (ci := 0) (C := RX0) (T := TX0) (N := 7) hx hb hW inX0 hown hK hP 0 rfl rfl 0 (by decide) (hW _ (wa tw178 rfl)) (fun _ h9 => h9) rfl dX0_stateAhead_27 ?_
        refine lv_iload hx hb dX0_stateAhead_30 (lv_at hl 4 rfl) ?_
        refine xiald hx hb hK hP 1 rfl k rfl (by omega) (by decide) dX0_stateAhead_32 ?_
        refine lv_iload_n hx hb dX0_stateAhead_33 rfl (lv_at hl 1 rfl) ?_
        refine lv_icmp_ne (tgt := 83) hx hb dX0_stateAhead_34 (by decide) (fun c_5 => ?_) (fun c_5 => ?_)
        · refine lv_iinc (v := nI k + 1) (lv' := [(4, .int (nI k + 1)), (0, .ref (ab 0)), (1, .int 2), (2, .int (nI n)), (3, .int x)]) hx hb dX0_stateAhead_83 hl (k := 4) rfl rfl (by decide) rfl (fun ls hl => ?_)
          refine lv_goto (tgt := 5) hx hb dX0_stateAhead_86 (by decide) ?_
          rw [nI_1] at hl
          exact ih5 (k := k + 1) (x := x) (ls := ls) ⟨by omega, by rw [← h5_1, saL]; simp only [saM, saU, if_neg c_4, if_neg c_5], lv_sub hl [1, 2, 3, 4, 0] rfl⟩
        · refine lv_aload_n hx hb dX0_stateAhead_37 rfl (lv_at hl 0 rfl) ?_
          refine va_get (D := D) (ci := 0) (C := RX0) (T := TX0) (N := 7) hx hb hW inX0 hown hK hP 0 rfl rfl 3 (by decide) (hW _ (wa tw181 rfl)) (fun _ h9 => h9) rfl dX0_stateAhead_38 ?_
          refine lv_iload hx hb dX0_stateAhead_41 (lv_at hl 4 rfl) ?_
          refine xzald hx hb hK hP 4 rfl k rfl (by omega) (by decide) dX0_stateAhead_43 ?_
          refine lv_if_eq (tgt := 83) hx hb dX0_stateAhead_44 (by decide) (fun c_6 => ?_) (fun c_6 => ?_)
          · refine lv_iinc (v := nI k + 1) (lv' := [(4, .int (nI k + 1)), (0, .ref (ab 0)), (1, .int 2), (2, .int (nI n)), (3, .int x)]) hx hb dX0_stateAhead_83 hl (k := 4) rfl rfl (by decide) rfl (fun ls hl => ?_)
            refine lv_goto (tgt := 5) hx hb dX0_stateAhead_86 (by decide) ?_
            rw [nI_1] at hl
            exact ih5 (k := k + 1) (x := x) (ls := ls) ⟨by omega, by rw [← h5_1, saL]; simp only [saM, saU, if_neg c_4, if_pos c_5, if_pos c_6], lv_sub hl [1, 2, 3, 4, 0] rfl⟩
          · refine lv_sipush (v := 1000) hx hb dX0_stateAhead_47 (by decide) ?_
            refine lv_aload_n hx hb dX0_stateAhead_50 rfl (lv_at hl 0 rfl) ?_
            refine va_get (D := D) (ci := 0) (C := RX0) (T := TX0) (N := 7) hx hb hW inX0 hown hK hP 0 rfl rfl 2 (by decide) (hW _ (wa tw180 rfl)) (fun _ h9 => h9) rfl dX0_stateAhead_51 ?_
            refine lv_iload hx hb dX0_stateAhead_54 (lv_at hl 4 rfl) ?_
            refine xiald hx hb hK hP 3 rfl k rfl (by omega) (by decide) dX0_stateAhead_56 ?_
            refine lv_aload_n hx hb dX0_stateAhead_57 rfl (lv_at hl 0 rfl) ?_
            refine va_get (D := D) (ci := 0) (C := RX0) (T := TX0) (N := 7) hx hb hW inX0 hown hK hP 0 rfl rfl 1 (by decide) (hW _ (wa tw179 rfl)) (fun _ h9 => h9) rfl dX0_stateAhead_58 ?_
            refine lv_iload hx hb dX0_stateAhead_61 (lv_at hl 4 rfl) ?_
            refine xiald hx hb hK hP 2 rfl k rfl (by omega) (by decide) dX0_stateAhead_63 ?_
            refine lv_isub hx hb dX0_stateAhead_64 ?_
            refine lv_imul hx hb dX0_stateAhead_65 ?_
            refine lv_istore (lv' := [(5, .int (1000 * (((Bk 2) k) - ((Bk 1) k)))), (0, .ref (ab 0)), (1, .int 2), (2, .int (nI n)), (3, .int x), (4, .int (nI k))]) hx hb dX0_stateAhead_66 hl (by decide) rfl (fun ls hl => ?_)
            refine lv_iload_n hx hb dX0_stateAhead_68 rfl (lv_at hl 4 rfl) ?_
            refine lv_aload_n hx hb dX0_stateAhead_69 rfl (lv_at hl 1 rfl) ?_
            refine va_get (D := D) (ci := 0) (C := RX0) (T := TX0) (N := 7) hx hb hW inX0 hown hK hP 0 rfl rfl 6 (by decide) (hW _ (wa tw185 rfl)) (fun _ h9 => h9) rfl dX0_stateAhead_70 ?_
            refine lv_iload hx hb dX0_stateAhead_73 (lv_at hl 0 rfl) ?_
            refine lv_iload_n hx hb dX0_stateAhead_75 rfl (lv_at hl 4 rfl) ?_
            refine lv_isub hx hb dX0_stateAhead_76 ?_
            refine lv_imul hx hb dX0_stateAhead_77 ?_
            refine lv_bipush (v := 16) hx hb dX0_stateAhead_78 (by decide) ?_
            refine lv_idiv hx hb dX0_stateAhead_80 (by decide) ?_
            refine lv_iadd hx hb dX0_stateAhead_81 ?_
            refine lv_istore_n (lv' := [(3, .int (x + (((Bk 8 1) * ((1000 * (((Bk 2) k) - ((Bk 1) k))) - x)) / 16))), (5, .int (1000 * (((Bk 2) k) - ((Bk 1) k)))), (0, .ref (ab 0)), (1, .int 2), (2, .int (nI n)), (4, .int (nI k))]) hx hb dX0_stateAhead_82 rfl hl (by decide) rfl (fun ls hl => ?_)
            refine lv_iinc (v := nI k + 1) (lv' := [(4, .int (nI k + 1)), (3, .int (x + (((Bk 8 1) * ((1000 * (((Bk 2) k) - ((Bk 1) k))) - x)) / 16))), (5, .int (1000 * (((Bk 2) k) - ((Bk 1) k)))), (0, .ref (ab 0)), (1, .int 2), (2, .int (nI n))]) hx hb dX0_stateAhead_83 hl (k := 5) rfl rfl (by decide) rfl (fun ls hl => ?_)
            refine lv_goto (tgt := 5) hx hb dX0_stateAhead_86 (by decide) ?_
            rw [nI_1] at hl
            exact ih5 (k := k + 1) (x := (x + (((Bk 8 1) * ((1000 * (((Bk 2) k) - ((Bk 1) k))) - x)) / 16))) (ls := ls) ⟨by omega, by rw [← h5_1, saL]; simp only [saM, saU, if_neg c_4, if_pos c_5, if_neg c_6], lv_sub hl [3, 4, 5, 1, 0] rfl⟩
      · refine lv_iconst (v := 0) hx hb dX0_stateAhead_24 (by decide) ?_
        refine lv_istore_n (lv' := [(3, .int 0), (0, .ref (ab 0)), (1, .int 2), (2, .int (nI n)), (4, .int (nI k))]) hx hb dX0_stateAhead_25 rfl hl (by decide) rfl (fun ls hl => ?_)
        refine lv_aload_n hx hb dX0_stateAhead_26 rfl (lv_at hl 1 rfl) ?_
        refine va_get (D := D) (ci := 0) (C := RX0) (T := TX0) (N := 7) hx hb hW inX0 hown hK hP 0 rfl rfl 0 (by decide) (hW _ (wa tw178 rfl)) (fun _ h9 => h9) rfl dX0_stateAhead_27 ?_
        refine lv_iload hx hb dX0_stateAhead_30 (lv_at hl 4 rfl) ?_
        refine xiald hx hb hK hP 1 rfl k rfl (by omega) (by decide) dX0_stateAhead_32 ?_
        refine lv_iload_n hx hb dX0_stateAhead_33 rfl (lv_at hl 2 rfl) ?_
        refine lv_icmp_ne (tgt := 83) hx hb dX0_stateAhead_34 (by decide) (fun c_7 => ?_) (fun c_7 => ?_)
        · refine lv_iinc (v := nI k + 1) (lv' := [(4, .int (nI k + 1)), (3, .int 0), (0, .ref (ab 0)), (1, .int 2), (2, .int (nI n))]) hx hb dX0_stateAhead_83 hl (k := 4) rfl rfl (by decide) rfl (fun ls hl => ?_)
          refine lv_goto (tgt := 5) hx hb dX0_stateAhead_86 (by decide) ?_
          rw [nI_1] at hl
          exact ih5 (k := k + 1) (x := 0) (ls := ls) ⟨by omega, by rw [← h5_1, saL]; simp only [saM, saU, if_pos c_4, if_neg c_7], lv_sub hl [2, 3, 4, 1, 0] rfl⟩
        · refine lv_aload_n hx hb dX0_stateAhead_37 rfl (lv_at hl 1 rfl) ?_
          refine va_get (D := D) (ci := 0) (C := RX0) (T := TX0) (N := 7) hx hb hW inX0 hown hK hP 0 rfl rfl 3 (by decide) (hW _ (wa tw181 rfl)) (fun _ h9 => h9) rfl dX0_stateAhead_38 ?_
          refine lv_iload hx hb dX0_stateAhead_41 (lv_at hl 4 rfl) ?_
          refine xzald hx hb hK hP 4 rfl k rfl (by omega) (by decide) dX0_stateAhead_43 ?_
          refine lv_if_eq (tgt := 83) hx hb dX0_stateAhead_44 (by decide) (fun c_8 => ?_) (fun c_8 => ?_)
          · refine lv_iinc (v := nI k + 1) (lv' := [(4, .int (nI k + 1)), (3, .int 0), (0, .ref (ab 0)), (1, .int 2), (2, .int (nI n))]) hx hb dX0_stateAhead_83 hl (k := 4) rfl rfl (by decide) rfl (fun ls hl => ?_)
            refine lv_goto (tgt := 5) hx hb dX0_stateAhead_86 (by decide) ?_
            rw [nI_1] at hl
            exact ih5 (k := k + 1) (x := 0) (ls := ls) ⟨by omega, by rw [← h5_1, saL]; simp only [saM, saU, if_pos c_4, if_pos c_7, if_pos c_8], lv_sub hl [2, 3, 4, 1, 0] rfl⟩
          · refine lv_sipush (v := 1000) hx hb dX0_stateAhead_47 (by decide) ?_
            refine lv_aload_n hx hb dX0_stateAhead_50 rfl (lv_at hl 1 rfl) ?_
            refine va_get (D := D) (ci := 0) (C := RX0) (T := TX0) (N := 7) hx hb hW inX0 hown hK hP 0 rfl rfl 2 (by decide) (hW _ (wa tw180 rfl)) (fun _ h9 => h9) rfl dX0_stateAhead_51 ?_
            refine lv_iload hx hb dX0_stateAhead_54 (lv_at hl 4 rfl) ?_
            refine xiald hx hb hK hP 3 rfl k rfl (by omega) (by decide) dX0_stateAhead_56 ?_
            refine lv_aload_n hx hb dX0_stateAhead_57 rfl (lv_at hl 1 rfl) ?_
            refine va_get (D := D) (ci := 0) (C := RX0) (T := TX0) (N := 7) hx hb hW inX0 hown hK hP 0 rfl rfl 1 (by decide) (hW _ (wa tw179 rfl)) (fun _ h9 => h9) rfl dX0_stateAhead_58 ?_
            refine lv_iload hx hb dX0_stateAhead_61 (lv_at hl 4 rfl) ?_
            refine xiald hx hb hK hP 2 rfl k rfl (by omega) (by decide) dX0_stateAhead_63 ?_
            refine lv_isub hx hb dX0_stateAhead_64 ?_
            refine lv_imul hx hb dX0_stateAhead_65 ?_
            refine lv_istore (lv' := [(5, .int (1000 * (((Bk 2) k) - ((Bk 1) k)))), (3, .int 0), (0, .ref (ab 0)), (1, .int 2), (2, .int (nI n)), (4, .int (nI k))]) hx hb dX0_stateAhead_66 hl (by decide) rfl (fun ls hl => ?_)
            refine lv_iload_n hx hb dX0_stateAhead_68 rfl (lv_at hl 1 rfl) ?_
            refine lv_aload_n hx hb dX0_stateAhead_69 rfl (lv_at hl 2 rfl) ?_
            refine va_get (D := D) (ci := 0) (C := RX0) (T := TX0) (N := 7) hx hb hW inX0 hown hK hP 0 rfl rfl 6 (by decide) (hW _ (wa tw185 rfl)) (fun _ h9 => h9) rfl dX0_stateAhead_70 ?_
            refine lv_iload hx hb dX0_stateAhead_73 (lv_at hl 0 rfl) ?_
            refine lv_iload_n hx hb dX0_stateAhead_75 rfl (lv_at hl 1 rfl) ?_
            refine lv_isub hx hb dX0_stateAhead_76 ?_
            refine lv_imul hx hb dX0_stateAhead_77 ?_
            refine lv_bipush (v := 16) hx hb dX0_stateAhead_78 (by decide) ?_
            refine lv_idiv hx hb dX0_stateAhead_80 (by decide) ?_
            refine lv_iadd hx hb dX0_stateAhead_81 ?_
            refine lv_istore_n (lv' := [(3, .int (0 + (((Bk 8 1) * ((1000 * (((Bk 2) k) - ((Bk 1) k))) - 0)) / 16))), (5, .int (1000 * (((Bk 2) k) - ((Bk 1) k)))), (0, .ref (ab 0)), (1, .int 2), (2, .int (nI n)), (4, .int (nI k))]) hx hb dX0_stateAhead_82 rfl hl (by decide) rfl (fun ls hl => ?_)
            refine lv_iinc (v := nI k + 1) (lv' := [(4, .int (nI k + 1)), (3, .int (0 + (((Bk 8 1) * ((1000 * (((Bk 2) k) - ((Bk 1) k))) - 0)) / 16))), (5, .int (1000 * (((Bk 2) k) - ((Bk 1) k)))), (0, .ref (ab 0)), (1, .int 2), (2, .int (nI n))]) hx hb dX0_stateAhead_83 hl (k := 5) rfl rfl (by decide) rfl (fun ls hl => ?_)
            refine lv_goto (tgt := 5) hx hb dX0_stateAhead_86 (by decide) ?_
            rw [nI_1] at hl
            exact ih5 (k := k + 1) (x := (0 + (((Bk 8 1) * ((1000 * (((Bk 2) k) - ((Bk 1) k))) - 0)) / 16))) (ls := ls) ⟨by omega, by rw [← h5_1, saL]; simp only [saM, saU, if_pos c_4, if_pos c_7, if_neg c_8], lv_sub hl [3, 4, 5, 1, 0] rfl⟩

set_option maxHeartbeats 4000000 in
set_option maxRecDepth 100000 in
theorem kX0_stateAhead_3 (l : Launch) (D : va_G) (C : Nat → ClassId) (ab : Nat → Nat) (Bk : Nat → Nat → Int32) (n : Nat) (hn60 : n ≤ 60) : Ri l D C yX0_stateAhead cX0_stateAhead 6 .int 0 [.ref (ab 0), .int 3, .int (nI n)] (wB ab C Bk) (f0_state Bk (Bk 7) 3 n) := by
  refine Met.ofW (cc := cX0_stateAhead) (maxL := 6) (ret := (some .int)) (by decide) rfl ?_
  intro p e s m args below meth c s₁ B hml hv
  obtain ⟨rfl, hP, hK, hNw⟩ := hv
  have hx := B.exec
  have hb := B.bytes
  have hr := B.returns
  have hts := atoms_spec (ws := wm yX0_stateAhead cX0_stateAhead 6 (some .int)) B.pre
  have hown : s.vm.findClass RX0 = some m.cls := findClass_of_methodNamed B.named
  have hlocks := B.notSynchronized
  have hW : ∀ w ∈ WA, w.before _ s = true := fun w h => hts w (List.mem_cons_of_mem _ h)
  have hP : va_P D vwCl [((ab 0), .inr (0, [.ref (ab 1), .ref (ab 2), .ref (ab 3), .ref (ab 4), .ref (ab 5), .int (Bk 8 0), .int (Bk 8 1)])), ((ab 1), eI C 60 (Bk 0)), ((ab 2), eI C 60 (Bk 1)), ((ab 3), eI C 60 (Bk 2)), ((ab 4), eZ C 60 (Bk 3)), ((ab 5), eII C 4 (rr ab 6 4)), ((ab 6), eI C 61 (Bk 4)), ((ab 7), eI C 61 (Bk 5)), ((ab 8), eI C 61 (Bk 6)), ((ab 9), eI C 61 (Bk 7))] s.heap := hP
  have hl := lv_entry ([.ref (ab 0), .int 3, .int (nI n)]) (n := 6) (Nat.le_of_ble_eq_true rfl)
  rw [lg_entry_eq]
  generalize (lg_sl ([.ref (ab 0), .int 3, .int (nI n)]) ++ List.replicate (6 - (lg_sl ([.ref (ab 0), .int 3, .int (nI n)])).length) Slot.unset).toArray = ls at hl ⊢
  have hl : lv_has ls 6 [(0, .ref (ab 0)), (1, .int 3), (2, .int (nI n))] := hl
  refine lv_iconst (v := 0) hx hb dX0_stateAhead_0 (by decide) ?_
  refine lv_istore_n (lv' := [(3, .int 0), (0, .ref (ab 0)), (1, .int 3), (2, .int (nI n))]) hx hb dX0_stateAhead_1 rfl hl (by decide) rfl (fun ls hl => ?_)
  refine lv_iconst (v := 0) hx hb dX0_stateAhead_2 (by decide) ?_
  refine lv_istore (lv' := [(4, .int 0), (3, .int 0), (0, .ref (ab 0)), (1, .int 3), (2, .int (nI n))]) hx hb dX0_stateAhead_3 hl (by decide) rfl (fun ls hl => ?_)
  obtain ⟨n5, k, x, hinv⟩ : ∃ (n5 : Nat) (k : Nat) (x : Int32), (k + n5 = n) ∧ (saL Bk (Bk 7) 3 n5 k x = saL Bk (Bk 7) 3 n 0 0) ∧ lv_has ls 6 [(0, .ref (ab 0)), (1, .int 3), (2, .int (nI n)), (3, .int x), (4, .int (nI k))] := ⟨n, 0, 0, by omega, rfl, lv_sub hl [2, 3, 4, 1, 0] rfl⟩
  clear hl
  induction n5 generalizing k x ls with
  | zero =>
    obtain ⟨h5_0, h5_1, hl⟩ := hinv
    refine lv_iload hx hb dX0_stateAhead_5 (lv_at hl 4 rfl) ?_
    refine lv_iload_n hx hb dX0_stateAhead_7 rfl (lv_at hl 2 rfl) ?_
    refine lv_icmp_ge (tgt := 89) hx hb dX0_stateAhead_8 (by decide) (fun c_1 => ?_) (fun c_1 => ?_)
    · have e_x : x = saL Bk (Bk 7) 3 n 0 0 := h5_1
      subst e_x
      refine lv_aload_n hx hb dX0_stateAhead_89 rfl (lv_at hl 0 rfl) ?_
      refine va_get (D := D) (ci := 0) (C := RX0) (T := TX0) (N := 7) hx hb hW inX0 hown hK hP 0 rfl rfl 4 (by decide) (hW _ (wa tw182 rfl)) (fun _ h9 => h9) rfl dX0_stateAhead_90 ?_
      refine lv_iload_n hx hb dX0_stateAhead_93 rfl (lv_at hl 1 rfl) ?_
      refine xaaldI hx hb hK hP 5 rfl 3 (nI_lit 3) (by decide) (by decide) (b := (ab 9)) rfl dX0_stateAhead_94 ?_
      refine lv_iload_n hx hb dX0_stateAhead_95 rfl (lv_at hl 2 rfl) ?_
      refine xiald hx hb hK hP 9 rfl n rfl (by omega) (by decide) dX0_stateAhead_96 ?_
      refine lv_iconst (v := 1) hx hb dX0_stateAhead_97 (by decide) ?_
      refine lv_icmp_ne (tgt := 105) hx hb dX0_stateAhead_98 (by decide) (fun c_2 => ?_) (fun c_2 => ?_)
      · refine lv_iload_n hx hb dX0_stateAhead_105 rfl (lv_at hl 3 rfl) ?_
        exact W.iret (v := (saL Bk (Bk 7) 3 n 0 0)) hx hb hr (fun t ht _ => ⟨_, rfl, (by rw [f0_state, if_neg c_2]), ht⟩) (fun q h => by cases h) dX0_stateAhead_106
      · refine lv_iconst (v := 0) hx hb dX0_stateAhead_101 (by decide) ?_
        refine lv_goto (tgt := 106) hx hb dX0_stateAhead_102 (by decide) ?_
        exact W.iret (v := 0) hx hb hr (fun t ht _ => ⟨_, rfl, (by rw [f0_state, if_pos c_2]), ht⟩) (fun q h => by cases h) dX0_stateAhead_106
    · exact absurd (q_le rfl rfl (by omega) (by omega)) c_1
  | succ n5 ih5 =>
    obtain ⟨h5_0, h5_1, hl⟩ := hinv
    refine lv_iload hx hb dX0_stateAhead_5 (lv_at hl 4 rfl) ?_
    refine lv_iload_n hx hb dX0_stateAhead_7 rfl (lv_at hl 2 rfl) ?_
    refine lv_icmp_ge (tgt := 89) hx hb dX0_stateAhead_8 (by decide) (fun c_3 => ?_) (fun c_3 => ?_)
    · exact absurd c_3 (q_nle rfl rfl (by omega) (by omega))
    · refine lv_aload_n hx hb dX0_stateAhead_11 rfl (lv_at hl 0 rfl) ?_
      refine va_get (D := D) (ci := 0) (C := RX0) (T := TX0) (N := 7) hx hb hW inX0 hown hK hP 0 rfl rfl 4 (by decide) (hW _ (wa tw182 rfl)) (fun _ h9 => h9) rfl dX0_stateAhead_12 ?_
      refine lv_iload_n hx hb dX0_stateAhead_15 rfl (lv_at hl 1 rfl) ?_
      refine xaaldI hx hb hK hP 5 rfl 3 (nI_lit 3) (by decide) (by decide) (b := (ab 9)) rfl dX0_stateAhead_16 ?_
      refine lv_iload hx hb dX0_stateAhead_17 (lv_at hl 4 rfl) ?_
      refine xiald hx hb hK hP 9 rfl k rfl (by omega) (by decide) dX0_stateAhead_19 ?_
      refine lv_iconst (v := 1) hx hb dX0_stateAhead_20 (by decide) ?_
      refine lv_icmp_ne (tgt := 26) hx hb dX0_stateAhead_21 (by decide) (fun c_4 => ?_) (fun c_4 => ?_)
      · refine lv_aload_n hx hb dX0_stateAhead_26 rfl (lv_at hl 0 rfl) ?_
        refine va_get (D := D) (ci := 0) (C := RX0) (T := TX0) (N := 7) hx hb hW inX0 hown hK hP 0 rfl rfl 0 (by decide) (hW _ (wa tw178 rfl)) (fun _ h9 => h9) rfl dX0_stateAhead_27 ?_
        refine lv_iload hx hb dX0_stateAhead_30 (lv_at hl 4 rfl) ?_
        refine xiald hx hb hK hP 1 rfl k rfl (by omega) (by decide) dX0_stateAhead_32 ?_
        refine lv_iload_n hx hb dX0_stateAhead_33 rfl (lv_at hl 1 rfl) ?_
        refine lv_icmp_ne (tgt := 83) hx hb dX0_stateAhead_34 (by decide) (fun c_5 => ?_) (fun c_5 => ?_)
        · refine lv_iinc (v := nI k + 1) (lv' := [(4, .int (nI k + 1)), (0, .ref (ab 0)), (1, .int 3), (2, .int (nI n)), (3, .int x)]) hx hb dX0_stateAhead_83 hl (k := 4) rfl rfl (by decide) rfl (fun ls hl => ?_)
          refine lv_goto (tgt := 5) hx hb dX0_stateAhead_86 (by decide) ?_
          rw [nI_1] at hl
          exact ih5 (k := k + 1) (x := x) (ls := ls) ⟨by omega, by rw [← h5_1, saL]; simp only [saM, saU, if_neg c_4, if_neg c_5], lv_sub hl [1, 2, 3, 4, 0] rfl⟩
        · refine lv_aload_n hx hb dX0_stateAhead_37 rfl (lv_at hl 0 rfl) ?_
          refine va_get (D := D) (ci := 0) (C := RX0) (T := TX0) (N := 7) hx hb hW inX0 hown hK hP 0 rfl rfl 3 (by decide) (hW _ (wa tw181 rfl)) (fun _ h9 => h9) rfl dX0_stateAhead_38 ?_
          refine lv_iload hx hb dX0_stateAhead_41 (lv_at hl 4 rfl) ?_
          refine xzald hx hb hK hP 4 rfl k rfl (by omega) (by decide) dX0_stateAhead_43 ?_
          refine lv_if_eq (tgt := 83) hx hb dX0_stateAhead_44 (by decide) (fun c_6 => ?_) (fun c_6 => ?_)
          · refine lv_iinc (v := nI k + 1) (lv' := [(4, .int (nI k + 1)), (0, .ref (ab 0)), (1, .int 3), (2, .int (nI n)), (3, .int x)]) hx hb dX0_stateAhead_83 hl (k := 4) rfl rfl (by decide) rfl (fun ls hl => ?_)
            refine lv_goto (tgt := 5) hx hb dX0_stateAhead_86 (by decide) ?_
            rw [nI_1] at hl
            exact ih5 (k := k + 1) (x := x) (ls := ls) ⟨by omega, by rw [← h5_1, saL]; simp only [saM, saU, if_neg c_4, if_pos c_5, if_pos c_6], lv_sub hl [1, 2, 3, 4, 0] rfl⟩
          · refine lv_sipush (v := 1000) hx hb dX0_stateAhead_47 (by decide) ?_
            refine lv_aload_n hx hb dX0_stateAhead_50 rfl (lv_at hl 0 rfl) ?_
            refine va_get (D := D) (ci := 0) (C := RX0) (T := TX0) (N := 7) hx hb hW inX0 hown hK hP 0 rfl rfl 2 (by decide) (hW _ (wa tw180 rfl)) (fun _ h9 => h9) rfl dX0_stateAhead_51 ?_
            refine lv_iload hx hb dX0_stateAhead_54 (lv_at hl 4 rfl) ?_
            refine xiald hx hb hK hP 3 rfl k rfl (by omega) (by decide) dX0_stateAhead_56 ?_
            refine lv_aload_n hx hb dX0_stateAhead_57 rfl (lv_at hl 0 rfl) ?_
            refine va_get (D := D) (ci := 0) (C := RX0) (T := TX0) (N := 7) hx hb hW inX0 hown hK hP 0 rfl rfl 1 (by decide) (hW _ (wa tw179 rfl)) (fun _ h9 => h9) rfl dX0_stateAhead_58 ?_
            refine lv_iload hx hb dX0_stateAhead_61 (lv_at hl 4 rfl) ?_
            refine xiald hx hb hK hP 2 rfl k rfl (by omega) (by decide) dX0_stateAhead_63 ?_
            refine lv_isub hx hb dX0_stateAhead_64 ?_
            refine lv_imul hx hb dX0_stateAhead_65 ?_
            refine lv_istore (lv' := [(5, .int (1000 * (((Bk 2) k) - ((Bk 1) k)))), (0, .ref (ab 0)), (1, .int 3), (2, .int (nI n)), (3, .int x), (4, .int (nI k))]) hx hb dX0_stateAhead_66 hl (by decide) rfl (fun ls hl => ?_)
            refine lv_iload_n hx hb dX0_stateAhead_68 rfl (lv_at hl 4 rfl) ?_
            refine lv_aload_n hx hb dX0_stateAhead_69 rfl (lv_at hl 1 rfl) ?_
            refine va_get (D := D) (ci := 0) (C := RX0) (T := TX0) (N := 7) hx hb hW inX0 hown hK hP 0 rfl rfl 6 (by decide) (hW _ (wa tw185 rfl)) (fun _ h9 => h9) rfl dX0_stateAhead_70 ?_
            refine lv_iload hx hb dX0_stateAhead_73 (lv_at hl 0 rfl) ?_
            refine lv_iload_n hx hb dX0_stateAhead_75 rfl (lv_at hl 4 rfl) ?_
            refine lv_isub hx hb dX0_stateAhead_76 ?_
            refine lv_imul hx hb dX0_stateAhead_77 ?_
            refine lv_bipush (v := 16) hx hb dX0_stateAhead_78 (by decide) ?_
            refine lv_idiv hx hb dX0_stateAhead_80 (by decide) ?_
            refine lv_iadd hx hb dX0_stateAhead_81 ?_
            refine lv_istore_n (lv' := [(3, .int (x + (((Bk 8 1) * ((1000 * (((Bk 2) k) - ((Bk 1) k))) - x)) / 16))), (5, .int (1000 * (((Bk 2) k) - ((Bk 1) k)))), (0, .ref (ab 0)), (1, .int 3), (2, .int (nI n)), (4, .int (nI k))]) hx hb dX0_stateAhead_82 rfl hl (by decide) rfl (fun ls hl => ?_)
            refine lv_iinc (v := nI k + 1) (lv' := [(4, .int (nI k + 1)), (3, .int (x + (((Bk 8 1) * ((1000 * (((Bk 2) k) - ((Bk 1) k))) - x)) / 16))), (5, .int (1000 * (((Bk 2) k) - ((Bk 1) k)))), (0, .ref (ab 0)), (1, .int 3), (2, .int (nI n))]) hx hb dX0_stateAhead_83 hl (k := 5) rfl rfl (by decide) rfl (fun ls hl => ?_)
            refine lv_goto (tgt := 5) hx hb dX0_stateAhead_86 (by decide) ?_
            rw [nI_1] at hl
            exact ih5 (k := k + 1) (x := (x + (((Bk 8 1) * ((1000 * (((Bk 2) k) - ((Bk 1) k))) - x)) / 16))) (ls := ls) ⟨by omega, by rw [← h5_1, saL]; simp only [saM, saU, if_neg c_4, if_pos c_5, if_neg c_6], lv_sub hl [3, 4, 5, 1, 0] rfl⟩
      · refine lv_iconst (v := 0) hx hb dX0_stateAhead_24 (by decide) ?_
        refine lv_istore_n (lv' := [(3, .int 0), (0, .ref (ab 0)), (1, .int 3), (2, .int (nI n)), (4, .int (nI k))]) hx hb dX0_stateAhead_25 rfl hl (by decide) rfl (fun ls hl => ?_)
        refine lv_aload_n hx hb dX0_stateAhead_26 rfl (lv_at hl 1 rfl) ?_
        refine va_get (D := D) (ci := 0) (C := RX0) (T := TX0) (N := 7) hx hb hW inX0 hown hK hP 0 rfl rfl 0 (by decide) (hW _ (wa tw178 rfl)) (fun _ h9 => h9) rfl dX0_stateAhead_27 ?_
        refine lv_iload hx hb dX0_stateAhead_30 (lv_at hl 4 rfl) ?_
        refine xiald hx hb hK hP 1 rfl k rfl (by omega) (by decide) dX0_stateAhead_32 ?_
        refine lv_iload_n hx hb dX0_stateAhead_33 rfl (lv_at hl 2 rfl) ?_
        refine lv_icmp_ne (tgt := 83) hx hb dX0_stateAhead_34 (by decide) (fun c_7 => ?_) (fun c_7 => ?_)
        · refine lv_iinc (v := nI k + 1) (lv' := [(4, .int (nI k + 1)), (3, .int 0), (0, .ref (ab 0)), (1, .int 3), (2, .int (nI n))]) hx hb dX0_stateAhead_83 hl (k := 4) rfl rfl (by decide) rfl (fun ls hl => ?_)
          refine lv_goto (tgt := 5) hx hb dX0_stateAhead_86 (by decide) ?_
          rw [nI_1] at hl
          exact ih5 (k := k + 1) (x := 0) (ls := ls) ⟨by omega, by rw [← h5_1, saL]; simp only [saM, saU, if_pos c_4, if_neg c_7], lv_sub hl [2, 3, 4, 1, 0] rfl⟩
        · refine lv_aload_n hx hb dX0_stateAhead_37 rfl (lv_at hl 1 rfl) ?_
          refine va_get (D := D) (ci := 0) (C := RX0) (T := TX0) (N := 7) hx hb hW inX0 hown hK hP 0 rfl rfl 3 (by decide) (hW _ (wa tw181 rfl)) (fun _ h9 => h9) rfl dX0_stateAhead_38 ?_
          refine lv_iload hx hb dX0_stateAhead_41 (lv_at hl 4 rfl) ?_
          refine xzald hx hb hK hP 4 rfl k rfl (by omega) (by decide) dX0_stateAhead_43 ?_
          refine lv_if_eq (tgt := 83) hx hb dX0_stateAhead_44 (by decide) (fun c_8 => ?_) (fun c_8 => ?_)
          · refine lv_iinc (v := nI k + 1) (lv' := [(4, .int (nI k + 1)), (3, .int 0), (0, .ref (ab 0)), (1, .int 3), (2, .int (nI n))]) hx hb dX0_stateAhead_83 hl (k := 4) rfl rfl (by decide) rfl (fun ls hl => ?_)
            refine lv_goto (tgt := 5) hx hb dX0_stateAhead_86 (by decide) ?_
            rw [nI_1] at hl
            exact ih5 (k := k + 1) (x := 0) (ls := ls) ⟨by omega, by rw [← h5_1, saL]; simp only [saM, saU, if_pos c_4, if_pos c_7, if_pos c_8], lv_sub hl [2, 3, 4, 1, 0] rfl⟩
          · refine lv_sipush (v := 1000) hx hb dX0_stateAhead_47 (by decide) ?_
            refine lv_aload_n hx hb dX0_stateAhead_50 rfl (lv_at hl 1 rfl) ?_
            refine va_get (D := D) (ci := 0) (C := RX0) (T := TX0) (N := 7) hx hb hW inX0 hown hK hP 0 rfl rfl 2 (by decide) (hW _ (wa tw180 rfl)) (fun _ h9 => h9) rfl dX0_stateAhead_51 ?_
            refine lv_iload hx hb dX0_stateAhead_54 (lv_at hl 4 rfl) ?_
            refine xiald hx hb hK hP 3 rfl k rfl (by omega) (by decide) dX0_stateAhead_56 ?_
            refine lv_aload_n hx hb dX0_stateAhead_57 rfl (lv_at hl 1 rfl) ?_
            refine va_get (D := D) (ci := 0) (C := RX0) (T := TX0) (N := 7) hx hb hW inX0 hown hK hP 0 rfl rfl 1 (by decide) (hW _ (wa tw179 rfl)) (fun _ h9 => h9) rfl dX0_stateAhead_58 ?_
            refine lv_iload hx hb dX0_stateAhead_61 (lv_at hl 4 rfl) ?_
            refine xiald hx hb hK hP 2 rfl k rfl (by omega) (by decide) dX0_stateAhead_63 ?_
            refine lv_isub hx hb dX0_stateAhead_64 ?_
            refine lv_imul hx hb dX0_stateAhead_65 ?_
            refine lv_istore (lv' := [(5, .int (1000 * (((Bk 2) k) - ((Bk 1) k)))), (3, .int 0), (0, .ref (ab 0)), (1, .int 3), (2, .int (nI n)), (4, .int (nI k))]) hx hb dX0_stateAhead_66 hl (by decide) rfl (fun ls hl => ?_)
            refine lv_iload_n hx hb dX0_stateAhead_68 rfl (lv_at hl 1 rfl) ?_
            refine lv_aload_n hx hb dX0_stateAhead_69 rfl (lv_at hl 2 rfl) ?_
            refine va_get (D := D) (ci := 0) (C := RX0) (T := TX0) (N := 7) hx hb hW inX0 hown hK hP 0 rfl rfl 6 (by decide) (hW _ (wa tw185 rfl)) (fun _ h9 => h9) rfl dX0_stateAhead_70 ?_
            refine lv_iload hx hb dX0_stateAhead_73 (lv_at hl 0 rfl) ?_
            refine lv_iload_n hx hb dX0_stateAhead_75 rfl (lv_at hl 1 rfl) ?_
            refine lv_isub hx hb dX0_stateAhead_76 ?_
            refine lv_imul hx hb dX0_stateAhead_77 ?_
            refine lv_bipush (v := 16) hx hb dX0_stateAhead_78 (by decide) ?_
            refine lv_idiv hx hb dX0_stateAhead_80 (by decide) ?_
            refine lv_iadd hx hb dX0_stateAhead_81 ?_
            refine lv_istore_n (lv' := [(3, .int (0 + (((Bk 8 1) * ((1000 * (((Bk 2) k) - ((Bk 1) k))) - 0)) / 16))), (5, .int (1000 * (((Bk 2) k) - ((Bk 1) k)))), (0, .ref (ab 0)), (1, .int 3), (2, .int (nI n)), (4, .int (nI k))]) hx hb dX0_stateAhead_82 rfl hl (by decide) rfl (fun ls hl => ?_)
            refine lv_iinc (v := nI k + 1) (lv' := [(4, .int (nI k + 1)), (3, .int (0 + (((Bk 8 1) * ((1000 * (((Bk 2) k) - ((Bk 1) k))) - 0)) / 16))), (5, .int (1000 * (((Bk 2) k) - ((Bk 1) k)))), (0, .ref (ab 0)), (1, .int 3), (2, .int (nI n))]) hx hb dX0_stateAhead_83 hl (k := 5) rfl rfl (by decide) rfl (fun ls hl => ?_)
            refine lv_goto (tgt := 5) hx hb dX0_stateAhead_86 (by decide) ?_
            rw [nI_1] at hl
            exact ih5 (k := k + 1) (x := (0 + (((Bk 8 1) * ((1000 * (((Bk 2) k) - ((Bk 1) k))) - 0)) / 16))) (ls := ls) ⟨by omega, by rw [← h5_1, saL]; simp only [saM, saU, if_pos c_4, if_pos c_7, if_neg c_8], lv_sub hl [3, 4, 5, 1, 0] rfl⟩

def f4_step (Rt : Nat → Nat → Int32) (y t : Nat) : Int32 := if nI y = 0 then 0 else absI (Rt t y - Rt (ix (Rt 4 (y - 1))) (y - 1))
def rtok (Rt : Nat → Nat → Int32) : Prop := ∀ k, k < 6 → Rt 4 k = nI (ix (Rt 4 k)) ∧ ix (Rt 4 k) < 4

set_option maxHeartbeats 4000000 in
set_option maxRecDepth 100000 in
theorem kX4_stepTo (l : Launch) (D : va_G) (C : Nat → ClassId) (ar : Nat → Nat) (Rt : Nat → Nat → Int32) (y t : Nat) (hy : y < 6) (ht : t < 4) (hT : rtok Rt) : Ri l D C yX4_stepTo cX4_stepTo 4 .int 1 [.ref (ar 0), .int (nI y), .int (nI t)] (wR ar C Rt) (f4_step Rt y t) := by
  refine Met.ofW (cc := cX4_stepTo) (maxL := 4) (ret := (some .int)) (by decide) rfl ?_
  intro p e s m args below meth c s₁ B hml hv
  obtain ⟨rfl, hP, hK, hNw⟩ := hv
  have hx := B.exec
  have hb := B.bytes
  have hr := B.returns
  have hts := atoms_spec (ws := wm yX4_stepTo cX4_stepTo 4 (some .int)) B.pre
  have hown : s.vm.findClass RX4 = some m.cls := findClass_of_methodNamed B.named
  have hlocks := B.notSynchronized
  have hW : ∀ w ∈ WA, w.before _ s = true := fun w h => hts w (List.mem_cons_of_mem _ h)
  have hP : va_P D vwCl [((ar 0), .inr (4, [.ref (ar 1), .ref (ar 6), .ref (ar 7), .ref (ar 8), .int (Rt 7 0), .int (Rt 7 1), .int (Rt 7 2)])), ((ar 1), eII C 4 (rr ar 2 4)), ((ar 2), eI C 6 (Rt 0)), ((ar 3), eI C 6 (Rt 1)), ((ar 4), eI C 6 (Rt 2)), ((ar 5), eI C 6 (Rt 3)), ((ar 6), eI C 6 (Rt 4)), ((ar 7), eI C 6 (Rt 5)), ((ar 8), eI C 4 (Rt 6))] s.heap := hP
  have hl := lv_entry ([.ref (ar 0), .int (nI y), .int (nI t)]) (n := 4) (Nat.le_of_ble_eq_true rfl)
  rw [lg_entry_eq]
  generalize (lg_sl ([.ref (ar 0), .int (nI y), .int (nI t)]) ++ List.replicate (4 - (lg_sl ([.ref (ar 0), .int (nI y), .int (nI t)])).length) Slot.unset).toArray = ls at hl ⊢
  have hl : lv_has ls 4 [(0, .ref (ar 0)), (1, .int (nI y)), (2, .int (nI t))] := hl
  refine lv_iload_n hx hb dX4_stepTo_0 rfl (lv_at hl 1 rfl) ?_
  refine lv_if_ne (tgt := 6) hx hb dX4_stepTo_1 (by decide) (fun c_1 => ?_) (fun c_1 => ?_)
  · have hy0 : 0 < y := q_of_ne0 rfl c_1
    refine lv_aload_n hx hb dX4_stepTo_6 rfl (lv_at hl 0 rfl) ?_
    refine va_get (D := D) (ci := 4) (C := RX4) (T := TX4) (N := 7) hx hb hW inX4 hown hK hP 0 rfl rfl 1 (by decide) (hW _ (wa tw212 rfl)) (fun _ h9 => h9) rfl dX4_stepTo_7 ?_
    refine lv_iload_n hx hb dX4_stepTo_10 rfl (lv_at hl 1 rfl) ?_
    refine lv_iconst (v := 1) hx hb dX4_stepTo_11 (by decide) ?_
    refine lv_isub hx hb dX4_stepTo_12 ?_
    refine xiald hx hb hK hP 6 rfl (y - 1) (q_sub rfl (nI_lit 1) (by omega)) (by omega) (by decide) dX4_stepTo_13 ?_
    have hT2 := (hT (y - 1) (by omega)).2
    refine lv_istore_n (lv' := [(3, .int ((Rt 4) (y - 1))), (0, .ref (ar 0)), (1, .int (nI y)), (2, .int (nI t))]) hx hb dX4_stepTo_14 rfl hl (by decide) rfl (fun ls hl => ?_)
    refine lv_aload_n hx hb dX4_stepTo_15 rfl (lv_at hl 1 rfl) ?_
    refine va_get (D := D) (ci := 4) (C := RX4) (T := TX4) (N := 7) hx hb hW inX4 hown hK hP 0 rfl rfl 0 (by decide) (hW _ (wa tw210 rfl)) (fun _ h9 => h9) rfl dX4_stepTo_16 ?_
    refine lv_iload_n hx hb dX4_stepTo_19 rfl (lv_at hl 3 rfl) ?_
    refine xaaldI hx hb hK hP 1 rfl t rfl (by omega) (by decide) (b := (ar (2 + t))) (rr_lt (by omega)) dX4_stepTo_20 ?_
    refine lv_iload_n hx hb dX4_stepTo_21 rfl (lv_at hl 2 rfl) ?_
    refine xiald (n := 6) (f := Rt t) hx hb hK hP (2 + t) (by rcases (show t = 0 ∨ t = 1 ∨ t = 2 ∨ t = 3 by omega) with rfl | rfl | rfl | rfl <;> rfl) y rfl (by omega) (by decide) dX4_stepTo_22 ?_
    refine lv_aload_n hx hb dX4_stepTo_23 rfl (lv_at hl 1 rfl) ?_
    refine va_get (D := D) (ci := 4) (C := RX4) (T := TX4) (N := 7) hx hb hW inX4 hown hK hP 0 rfl rfl 0 (by decide) (hW _ (wa tw210 rfl)) (fun _ h9 => h9) rfl dX4_stepTo_24 ?_
    refine lv_iload_n hx hb dX4_stepTo_27 rfl (lv_at hl 0 rfl) ?_
    refine xaaldI hx hb hK hP 1 rfl (ix (Rt 4 (y - 1))) (hT (y - 1) (by omega)).1 (by omega) (by decide) (b := (ar (2 + ix (Rt 4 (y - 1))))) (rr_lt (by omega)) dX4_stepTo_28 ?_
    refine lv_iload_n hx hb dX4_stepTo_29 rfl (lv_at hl 2 rfl) ?_
    refine lv_iconst (v := 1) hx hb dX4_stepTo_30 (by decide) ?_
    refine lv_isub hx hb dX4_stepTo_31 ?_
    refine xiald (n := 6) (f := Rt (ix (Rt 4 (y - 1)))) hx hb hK hP (2 + ix (Rt 4 (y - 1))) (by generalize ix (Rt 4 (y - 1)) = tb at hT2; rcases (show tb = 0 ∨ tb = 1 ∨ tb = 2 ∨ tb = 3 by omega) with rfl | rfl | rfl | rfl <;> rfl) (y - 1) (q_sub rfl (nI_lit 1) (by omega)) (by omega) (by decide) dX4_stepTo_32 ?_
    refine lv_isub hx hb dX4_stepTo_33 ?_
    refine va_mabs hx hb (hml.trans hl.1.symm) hown (hW _ (wa tw536 rfl)) (hW _ (wa tw537 rfl)) (hW _ (wa tw10 rfl)) (hW _ (wa tw538 rfl)) (Nat.le_of_ble_eq_true rfl) (Nat.le_of_ble_eq_true rfl) (Nat.le_of_ble_eq_true rfl) (Nat.le_of_ble_eq_true rfl) dX4_stepTo_34 ?_
    refine W.eq (g2 := F0 m 37 ls [.int (absI (((Rt t) y) - ((Rt (ix (Rt 4 (y - 1)))) (y - 1))))]) rfl ?_
    exact W.iret (v := absI (((Rt t) y) - ((Rt (ix (Rt 4 (y - 1)))) (y - 1)))) hx hb hr (fun t ht _ => ⟨_, rfl, (by rw [f4_step, if_neg c_1]), ht⟩) (fun q h => by cases h) dX4_stepTo_37
  · refine lv_iconst (v := 0) hx hb dX4_stepTo_4 (by decide) ?_
    exact W.iret (v := 0) hx hb hr (fun t ht _ => ⟨_, rfl, (by rw [f4_step, if_pos c_1]), ht⟩) (fun q h => by cases h) dX4_stepTo_5

def sdF (rec : Int32 → (Nat → Nat → Int32) → Nat → Nat → Int32) (y : Nat) (sum : Int32) : Nat → Nat → (Nat → Nat → Int32) → Nat → Nat → Int32
  | 0, _, Rt => Rt
  | r + 1, t, Rt => if Rt 7 1 ≤ Rt 6 t then sdF rec y sum r (t + 1) Rt else if Rt 7 0 < f4_step Rt y t then sdF rec y sum r (t + 1) Rt
    else sdF rec y sum r (t + 1) (uM (rec (sum + f4_step Rt y t) (uM (uM Rt 4 (upd (Rt 4) y (nI t))) 6 (upd (Rt 6) t (Rt 6 t + 1)))) 6 (upd (rec (sum + f4_step Rt y t) (uM (uM Rt 4 (upd (Rt 4) y (nI t))) 6 (upd (Rt 6) t (Rt 6 t + 1))) 6) t (rec (sum + f4_step Rt y t) (uM (uM Rt 4 (upd (Rt 4) y (nI t))) 6 (upd (Rt 6) t (Rt 6 t + 1))) 6 t - 1)))
def sdS (n : Nat) : Nat → Nat → Int32 → (Nat → Nat → Int32) → Nat → Nat → Int32
  | 0, _, sum, Rt => if Rt 7 2 = (-1) ∨ sum < Rt 7 2 then uM (uM Rt 5 (va_cpy (Rt 4) (Rt 5) 0 0 n)) 7 (upd (Rt 7) 2 sum) else Rt
  | d + 1, y, sum, Rt => if Rt 7 2 = (-1) ∨ sum < Rt 7 2 then sdF (sdS n d (y + 1)) y sum 4 0 Rt else Rt
theorem rtok_put {Rt : Nat → Nat → Int32} (h : rtok Rt) (y t : Nat) (ht : t < 4) (V : Nat → Int32) : rtok (uM (uM Rt 4 (upd (Rt 4) y (nI t))) 6 V) := by
  intro k hk
  show upd (Rt 4) y (nI t) k = _ ∧ ix (upd (Rt 4) y (nI t) k) < 4
  by_cases q : k = y
  · subst q
    rw [pk_us, ix_nI (by omega)]
    exact ⟨by show nI t = nI (ix (upd (Rt 4) k (nI t) k)); rw [pk_us, ix_nI (by omega)], ht⟩
  · rw [pk_un q]
    exact ⟨by show Rt 4 k = nI (ix (upd (Rt 4) y (nI t) k)); rw [pk_un q]; exact (h k hk).1, (h k hk).2⟩
theorem rtok_6 {Rt : Nat → Nat → Int32} (h : rtok Rt) (V : Nat → Int32) : rtok (uM Rt 6 V) := h
theorem sdF_ok {rec : Int32 → (Nat → Nat → Int32) → Nat → Nat → Int32} (hrec : ∀ sum Rt, rtok Rt → rtok (rec sum Rt)) (y : Nat) (sum : Int32) : ∀ (r t : Nat) (Rt : Nat → Nat → Int32), t + r = 4 → rtok Rt → rtok (sdF rec y sum r t Rt)
  | 0, _, _, _, h => h
  | r + 1, t, Rt, ht, h => by
    rw [sdF]
    split
    · exact sdF_ok hrec y sum r (t + 1) Rt (by omega) h
    · split
      · exact sdF_ok hrec y sum r (t + 1) Rt (by omega) h
      · exact sdF_ok hrec y sum r (t + 1) _ (by omega) (rtok_6 (hrec _ _ (rtok_put h y t (by omega) _)) _)
theorem sdS_ok (n : Nat) : ∀ (d y : Nat) (sum : Int32) (Rt : Nat → Nat → Int32), rtok Rt → rtok (sdS n d y sum Rt)
  | 0, y, sum, Rt, h => by
    rw [sdS]
    split
    · exact h
    · exact h
  | d + 1, y, sum, Rt, h => by
    rw [sdS]
    split
    · exact sdF_ok (fun sum Rt h => sdS_ok n d (y + 1) sum Rt h) y sum 4 0 Rt rfl h
    · exact h
def sdT (rec : Int32 → (Nat → Nat → Int32) → Nat → Nat → Int32) (y : Nat) (sum : Int32) (t : Nat) (Rt : Nat → Nat → Int32) : Nat → Nat → Int32 :=
  if Rt 7 1 ≤ Rt 6 t then Rt else if Rt 7 0 < f4_step Rt y t then Rt else uM (rec (sum + f4_step Rt y t) (uM (uM Rt 4 (upd (Rt 4) y (nI t))) 6 (upd (Rt 6) t (Rt 6 t + 1)))) 6 (upd ((rec (sum + f4_step Rt y t) (uM (uM Rt 4 (upd (Rt 4) y (nI t))) 6 (upd (Rt 6) t (Rt 6 t + 1)))) 6) t ((rec (sum + f4_step Rt y t) (uM (uM Rt 4 (upd (Rt 4) y (nI t))) 6 (upd (Rt 6) t (Rt 6 t + 1)))) 6 t - 1))
theorem sdF_step (rec : Int32 → (Nat → Nat → Int32) → Nat → Nat → Int32) (y : Nat) (sum : Int32) (r t : Nat) (Rt : Nat → Nat → Int32) : sdF rec y sum (r + 1) t Rt = sdF rec y sum r (t + 1) (sdT rec y sum t Rt) := by
  rw [sdF, sdT]
  split
  · rfl
  · split
    · rfl
    · rfl
theorem sdT_ok {rec : Int32 → (Nat → Nat → Int32) → Nat → Nat → Int32} (hrec : ∀ sum Rt, rtok Rt → rtok (rec sum Rt)) (y : Nat) (sum : Int32) (t : Nat) (ht : t < 4) (Rt : Nat → Nat → Int32) (h : rtok Rt) : rtok (sdT rec y sum t Rt) := by
  rw [sdT]
  split
  · exact h
  · split
    · exact h
    · exact rtok_6 (hrec _ _ (rtok_put h y t ht _)) _

set_option maxHeartbeats 4000000 in
set_option maxRecDepth 100000 in
theorem kX4_sendTo (l : Launch) (D : va_G) (C : Nat → ClassId) (ar : Nat → Nat) (Rt : Nat → Nat → Int32) (d n y t : Nat) (sum : Int32) (sz : Nat) (hn6 : n ≤ 6) (hyd : y + (d + 1) = n) (ht : t < 4) (hT : rtok Rt) (ih : ∀ (y : Nat) (sum : Int32) (Rt : Nat → Nat → Int32) (sz : Nat), y + d = n → rtok Rt → Wv l D C yX4_send cX4_send 5 (2 * d + 2) [.ref (ar 0), .int (nI n), .int (nI y), .int sum] (wR ar C Rt) (wR ar C (sdS n d y sum Rt)) sz) : Wv l D C yX4_sendTo cX4_sendTo 6 (2 * d + 3) [.ref (ar 0), .int (nI t), .int (nI n), .int (nI y), .int sum] (wR ar C Rt) ((wR ar C (sdT (sdS n d (y + 1)) y sum t Rt))) sz := by
  refine Met.ofW (cc := cX4_sendTo) (maxL := 6) (ret := none) (by decide) rfl ?_
  intro p e s m args below meth c s₁ B hml hv
  obtain ⟨rfl, hsz, hP, hK, hNw, hD0⟩ := hv
  have hx := B.exec
  have hb := B.bytes
  have hr := B.returns
  have hts := atoms_spec (ws := wm yX4_sendTo cX4_sendTo 6 none) B.pre
  have hown : s.vm.findClass RX4 = some m.cls := findClass_of_methodNamed B.named
  have hlocks := B.notSynchronized
  have hW : ∀ w ∈ WA, w.before _ s = true := fun w h => hts w (List.mem_cons_of_mem _ h)
  subst hsz
  have hD := hD0.self (sz := s.heap.size)
  generalize hAe : va_A (wR ar C Rt) s.heap.size = A at hD ⊢
  have hA : ∀ q : Nat, s.heap.size ≤ q → A q := fun q h => by rw [← hAe]; exact Or.inr h
  have hS : va_S A s.heap s.heap [] := va_S.rf
  have hP : va_P D vwCl [((ar 0), .inr (4, [.ref (ar 1), .ref (ar 6), .ref (ar 7), .ref (ar 8), .int (Rt 7 0), .int (Rt 7 1), .int (Rt 7 2)])), ((ar 1), eII C 4 (rr ar 2 4)), ((ar 2), eI C 6 (Rt 0)), ((ar 3), eI C 6 (Rt 1)), ((ar 4), eI C 6 (Rt 2)), ((ar 5), eI C 6 (Rt 3)), ((ar 6), eI C 6 (Rt 4)), ((ar 7), eI C 6 (Rt 5)), ((ar 8), eI C 4 (Rt 6))] s.heap := hP
  have hD : va_D A [((ar 0), .inr (4, [.ref (ar 1), .ref (ar 6), .ref (ar 7), .ref (ar 8), .int (Rt 7 0), .int (Rt 7 1), .int (Rt 7 2)])), ((ar 1), eII C 4 (rr ar 2 4)), ((ar 2), eI C 6 (Rt 0)), ((ar 3), eI C 6 (Rt 1)), ((ar 4), eI C 6 (Rt 2)), ((ar 5), eI C 6 (Rt 3)), ((ar 6), eI C 6 (Rt 4)), ((ar 7), eI C 6 (Rt 5)), ((ar 8), eI C 4 (Rt 6))] := hD
  have hl := lv_entry ([.ref (ar 0), .int (nI t), .int (nI n), .int (nI y), .int sum]) (n := 6) (Nat.le_of_ble_eq_true rfl)
  rw [lg_entry_eq]
  generalize (lg_sl ([.ref (ar 0), .int (nI t), .int (nI n), .int (nI y), .int sum]) ++ List.replicate (6 - (lg_sl ([.ref (ar 0), .int (nI t), .int (nI n), .int (nI y), .int sum])).length) Slot.unset).toArray = ls at hl ⊢
  have hl : lv_has ls 6 [(0, .ref (ar 0)), (1, .int (nI t)), (2, .int (nI n)), (3, .int (nI y)), (4, .int sum)] := hl
  refine lv_aload_n hx hb dX4_sendTo_0 rfl (lv_at hl 0 rfl) ?_
  refine lv_iload_n hx hb dX4_sendTo_1 rfl (lv_at hl 3 rfl) ?_
  refine lv_iload_n hx hb dX4_sendTo_2 rfl (lv_at hl 1 rfl) ?_
  refine xri (r := f4_step Rt y t) (rV (As := [.int (nI y), .int (nI t)]) (n := 2) (rest := []) ⟨hx, hb, hml, hown, hW⟩ (kX4_stepTo l D C ar Rt y t (by omega) (by omega) hT) (wa tw535 rfl) (wa tw532 rfl) (wa tw534 rfl) (was ts36 rfl) (wa tw7 rfl) (by decide +kernel) ⟨show 1 + 1 ≤ 2 * d + 3 by omega, show 8 + (4 + 11) + 40 * (1) ≤ 40 * (2 * d + 3) by omega⟩ (pVr hP hK hNw 0 rfl rfl) hl.1 rfl (Nat.le_of_ble_eq_true rfl) dX4_sendTo_3 ⟨Nat.le_of_ble_eq_true rfl, Nat.le_of_ble_eq_true rfl⟩ rfl rfl rfl) ?_
  refine lv_istore (lv' := [(5, .int (f4_step Rt y t)), (0, .ref (ar 0)), (1, .int (nI t)), (2, .int (nI n)), (3, .int (nI y)), (4, .int sum)]) hx hb dX4_sendTo_6 hl (by decide) rfl (fun ls hl => ?_)
  refine lv_aload_n hx hb dX4_sendTo_8 rfl (lv_at hl 1 rfl) ?_
  refine va_get (D := D) (ci := 4) (C := RX4) (T := TX4) (N := 7) hx hb hW inX4 hown hK hP 0 rfl rfl 3 (by decide) (hW _ (wa tw215 rfl)) (fun _ h9 => h9) rfl dX4_sendTo_9 ?_
  refine lv_iload_n hx hb dX4_sendTo_12 rfl (lv_at hl 2 rfl) ?_
  refine xiald hx hb hK hP 8 rfl t rfl (by omega) (by decide) dX4_sendTo_13 ?_
  refine lv_aload_n hx hb dX4_sendTo_14 rfl (lv_at hl 1 rfl) ?_
  refine va_get (D := D) (ci := 4) (C := RX4) (T := TX4) (N := 7) hx hb hW inX4 hown hK hP 0 rfl rfl 5 (by decide) (hW _ (wa tw218 rfl)) (fun _ h9 => h9) rfl dX4_sendTo_15 ?_
  refine lv_icmp_ge (tgt := 70) hx hb dX4_sendTo_18 (by decide) (fun c_1 => ?_) (fun c_1 => ?_)
  · have hb_0 : (sdT (sdS n d (y + 1)) y sum t Rt) = Rt := by rw [sdT, if_pos c_1]
    have hP9 : va_P D vwCl ((wR ar C (sdT (sdS n d (y + 1)) y sum t Rt))) s.heap := by rw [hb_0]; exact hP
    have hD9 : va_D A ((wR ar C (sdT (sdS n d (y + 1)) y sum t Rt))) := by rw [hb_0]; exact hD
    exact W.vret hx hb hr (fun t ht _ => ⟨⟨(), rfl, trivial, ⟨by rw [ht]; exact hP9, by rw [hAe]; exact hD9⟩⟩, hS.F ht⟩) hS.2.2 dX4_sendTo_70
  · refine lv_iload hx hb dX4_sendTo_21 (lv_at hl 0 rfl) ?_
    refine lv_aload_n hx hb dX4_sendTo_23 rfl (lv_at hl 1 rfl) ?_
    refine va_get (D := D) (ci := 4) (C := RX4) (T := TX4) (N := 7) hx hb hW inX4 hown hK hP 0 rfl rfl 4 (by decide) (hW _ (wa tw216 rfl)) (fun _ h9 => h9) rfl dX4_sendTo_24 ?_
    refine lv_icmp_gt (tgt := 70) hx hb dX4_sendTo_27 (by decide) (fun c_2 => ?_) (fun c_2 => ?_)
    · have hb_0 : (sdT (sdS n d (y + 1)) y sum t Rt) = Rt := by rw [sdT, if_neg c_1, if_pos c_2]
      have hP9 : va_P D vwCl ((wR ar C (sdT (sdS n d (y + 1)) y sum t Rt))) s.heap := by rw [hb_0]; exact hP
      have hD9 : va_D A ((wR ar C (sdT (sdS n d (y + 1)) y sum t Rt))) := by rw [hb_0]; exact hD
      exact W.vret hx hb hr (fun t ht _ => ⟨⟨(), rfl, trivial, ⟨by rw [ht]; exact hP9, by rw [hAe]; exact hD9⟩⟩, hS.F ht⟩) hS.2.2 dX4_sendTo_70
    · refine lv_aload_n hx hb dX4_sendTo_30 rfl (lv_at hl 1 rfl) ?_
      refine va_get (D := D) (ci := 4) (C := RX4) (T := TX4) (N := 7) hx hb hW inX4 hown hK hP 0 rfl rfl 1 (by decide) (hW _ (wa tw212 rfl)) (fun _ h9 => h9) rfl dX4_sendTo_31 ?_
      refine lv_iload_n hx hb dX4_sendTo_34 rfl (lv_at hl 4 rfl) ?_
      refine lv_iload_n hx hb dX4_sendTo_35 rfl (lv_at hl 2 rfl) ?_
      refine xiast hx hb hK hP hD hS 6 rfl y rfl (by omega) (by decide) dX4_sendTo_36 (fun H locs hP hD hS => ?_)
      have hP : va_P D vwCl [((ar 0), .inr (4, [.ref (ar 1), .ref (ar 6), .ref (ar 7), .ref (ar 8), .int (Rt 7 0), .int (Rt 7 1), .int (Rt 7 2)])), ((ar 1), eII C 4 (rr ar 2 4)), ((ar 2), eI C 6 (Rt 0)), ((ar 3), eI C 6 (Rt 1)), ((ar 4), eI C 6 (Rt 2)), ((ar 5), eI C 6 (Rt 3)), ((ar 6), eI C 6 (upd (Rt 4) y (nI t))), ((ar 7), eI C 6 (Rt 5)), ((ar 8), eI C 4 (Rt 6))] H := hP
      have hD : va_D A [((ar 0), .inr (4, [.ref (ar 1), .ref (ar 6), .ref (ar 7), .ref (ar 8), .int (Rt 7 0), .int (Rt 7 1), .int (Rt 7 2)])), ((ar 1), eII C 4 (rr ar 2 4)), ((ar 2), eI C 6 (Rt 0)), ((ar 3), eI C 6 (Rt 1)), ((ar 4), eI C 6 (Rt 2)), ((ar 5), eI C 6 (Rt 3)), ((ar 6), eI C 6 (upd (Rt 4) y (nI t))), ((ar 7), eI C 6 (Rt 5)), ((ar 8), eI C 4 (Rt 6))] := hD
      refine lv_aload_n hx hb dX4_sendTo_37 rfl (lv_at hl 1 rfl) ?_
      refine va_get (D := D) (ci := 4) (C := RX4) (T := TX4) (N := 7) hx hb hW inX4 hown hK hP 0 rfl rfl 3 (by decide) (hW _ (wa tw215 rfl)) (fun _ h9 => h9) rfl dX4_sendTo_38 ?_
      refine lv_iload_n hx hb dX4_sendTo_41 rfl (lv_at hl 2 rfl) ?_
      refine lv_dup2_11 hx hb dX4_sendTo_42 rfl rfl ?_
      refine xiald hx hb hK hP 8 rfl t rfl (by omega) (by decide) dX4_sendTo_43 ?_
      refine lv_iconst (v := 1) hx hb dX4_sendTo_44 (by decide) ?_
      refine lv_iadd hx hb dX4_sendTo_45 ?_
      refine xiast hx hb hK hP hD hS 8 rfl t rfl (by omega) (by decide) dX4_sendTo_46 (fun H locs hP hD hS => ?_)
      have hP : va_P D vwCl [((ar 0), .inr (4, [.ref (ar 1), .ref (ar 6), .ref (ar 7), .ref (ar 8), .int (Rt 7 0), .int (Rt 7 1), .int (Rt 7 2)])), ((ar 1), eII C 4 (rr ar 2 4)), ((ar 2), eI C 6 (Rt 0)), ((ar 3), eI C 6 (Rt 1)), ((ar 4), eI C 6 (Rt 2)), ((ar 5), eI C 6 (Rt 3)), ((ar 6), eI C 6 (upd (Rt 4) y (nI t))), ((ar 7), eI C 6 (Rt 5)), ((ar 8), eI C 4 (upd (Rt 6) t (((Rt 6) t) + 1)))] H := hP
      have hD : va_D A [((ar 0), .inr (4, [.ref (ar 1), .ref (ar 6), .ref (ar 7), .ref (ar 8), .int (Rt 7 0), .int (Rt 7 1), .int (Rt 7 2)])), ((ar 1), eII C 4 (rr ar 2 4)), ((ar 2), eI C 6 (Rt 0)), ((ar 3), eI C 6 (Rt 1)), ((ar 4), eI C 6 (Rt 2)), ((ar 5), eI C 6 (Rt 3)), ((ar 6), eI C 6 (upd (Rt 4) y (nI t))), ((ar 7), eI C 6 (Rt 5)), ((ar 8), eI C 4 (upd (Rt 6) t (((Rt 6) t) + 1)))] := hD
      refine lv_aload_n hx hb dX4_sendTo_47 rfl (lv_at hl 1 rfl) ?_
      refine lv_iload_n hx hb dX4_sendTo_48 rfl (lv_at hl 3 rfl) ?_
      refine lv_iload_n hx hb dX4_sendTo_49 rfl (lv_at hl 4 rfl) ?_
      refine lv_iconst (v := 1) hx hb dX4_sendTo_50 (by decide) ?_
      refine lv_iadd hx hb dX4_sendTo_51 ?_
      refine xtopi (y := nI (y + 1)) (nI_1 y) ?_
      refine lv_iload hx hb dX4_sendTo_52 (lv_at hl 5 rfl) ?_
      refine lv_iload hx hb dX4_sendTo_54 (lv_at hl 0 rfl) ?_
      refine lv_iadd hx hb dX4_sendTo_56 ?_
      refine xwv (wr := []) (rV (As := [.int (nI n), .int (nI (y + 1)), .int (sum + (f4_step Rt y t))]) (n := 3) (rest := []) ⟨hx, hb, hml, hown, hW⟩ (ih (y + 1) (sum + (f4_step Rt y t)) (uM (uM Rt 4 (upd (Rt 4) y (nI t))) 6 (upd (Rt 6) t (((Rt 6) t) + 1))) H.size (by omega) (rtok_put hT y t (by omega) _)) (wa tw524 rfl) (wa tw521 rfl) (wa tw523 rfl) (was ts34 rfl) (wa tw7 rfl) (by decide +kernel) ⟨show 2 * d + 2 + 1 ≤ 2 * d + 3 by omega, show 8 + (5 + 11) + 40 * (2 * d + 2) ≤ 40 * (2 * d + 3) by omega⟩ (pVw hP hD hK hNw 0 rfl rfl) hl.1 rfl (Nat.le_of_ble_eq_true rfl) dX4_sendTo_57 ⟨Nat.le_of_ble_eq_true rfl, Nat.le_of_ble_eq_true rfl⟩ rfl rfl rfl) hP hD hS hA [0, 1, 2, 3, 4, 5, 6, 7, 8] [] rfl rfl (by decide) (by decide) (fun H locs hP hD hS => ?_)
      have hP : va_P D vwCl [((ar 0), .inr (4, [.ref (ar 1), .ref (ar 6), .ref (ar 7), .ref (ar 8), .int ((sdS n d (y + 1) (sum + (f4_step Rt y t)) (uM (uM Rt 4 (upd (Rt 4) y (nI t))) 6 (upd (Rt 6) t (((Rt 6) t) + 1)))) 7 0), .int ((sdS n d (y + 1) (sum + (f4_step Rt y t)) (uM (uM Rt 4 (upd (Rt 4) y (nI t))) 6 (upd (Rt 6) t (((Rt 6) t) + 1)))) 7 1), .int ((sdS n d (y + 1) (sum + (f4_step Rt y t)) (uM (uM Rt 4 (upd (Rt 4) y (nI t))) 6 (upd (Rt 6) t (((Rt 6) t) + 1)))) 7 2)])), ((ar 1), eII C 4 (rr ar 2 4)), ((ar 2), eI C 6 ((sdS n d (y + 1) (sum + (f4_step Rt y t)) (uM (uM Rt 4 (upd (Rt 4) y (nI t))) 6 (upd (Rt 6) t (((Rt 6) t) + 1)))) 0)), ((ar 3), eI C 6 ((sdS n d (y + 1) (sum + (f4_step Rt y t)) (uM (uM Rt 4 (upd (Rt 4) y (nI t))) 6 (upd (Rt 6) t (((Rt 6) t) + 1)))) 1)), ((ar 4), eI C 6 ((sdS n d (y + 1) (sum + (f4_step Rt y t)) (uM (uM Rt 4 (upd (Rt 4) y (nI t))) 6 (upd (Rt 6) t (((Rt 6) t) + 1)))) 2)), ((ar 5), eI C 6 ((sdS n d (y + 1) (sum + (f4_step Rt y t)) (uM (uM Rt 4 (upd (Rt 4) y (nI t))) 6 (upd (Rt 6) t (((Rt 6) t) + 1)))) 3)), ((ar 6), eI C 6 ((sdS n d (y + 1) (sum + (f4_step Rt y t)) (uM (uM Rt 4 (upd (Rt 4) y (nI t))) 6 (upd (Rt 6) t (((Rt 6) t) + 1)))) 4)), ((ar 7), eI C 6 ((sdS n d (y + 1) (sum + (f4_step Rt y t)) (uM (uM Rt 4 (upd (Rt 4) y (nI t))) 6 (upd (Rt 6) t (((Rt 6) t) + 1)))) 5)), ((ar 8), eI C 4 ((sdS n d (y + 1) (sum + (f4_step Rt y t)) (uM (uM Rt 4 (upd (Rt 4) y (nI t))) 6 (upd (Rt 6) t (((Rt 6) t) + 1)))) 6))] H := hP
      have hD : va_D A [((ar 0), .inr (4, [.ref (ar 1), .ref (ar 6), .ref (ar 7), .ref (ar 8), .int ((sdS n d (y + 1) (sum + (f4_step Rt y t)) (uM (uM Rt 4 (upd (Rt 4) y (nI t))) 6 (upd (Rt 6) t (((Rt 6) t) + 1)))) 7 0), .int ((sdS n d (y + 1) (sum + (f4_step Rt y t)) (uM (uM Rt 4 (upd (Rt 4) y (nI t))) 6 (upd (Rt 6) t (((Rt 6) t) + 1)))) 7 1), .int ((sdS n d (y + 1) (sum + (f4_step Rt y t)) (uM (uM Rt 4 (upd (Rt 4) y (nI t))) 6 (upd (Rt 6) t (((Rt 6) t) + 1)))) 7 2)])), ((ar 1), eII C 4 (rr ar 2 4)), ((ar 2), eI C 6 ((sdS n d (y + 1) (sum + (f4_step Rt y t)) (uM (uM Rt 4 (upd (Rt 4) y (nI t))) 6 (upd (Rt 6) t (((Rt 6) t) + 1)))) 0)), ((ar 3), eI C 6 ((sdS n d (y + 1) (sum + (f4_step Rt y t)) (uM (uM Rt 4 (upd (Rt 4) y (nI t))) 6 (upd (Rt 6) t (((Rt 6) t) + 1)))) 1)), ((ar 4), eI C 6 ((sdS n d (y + 1) (sum + (f4_step Rt y t)) (uM (uM Rt 4 (upd (Rt 4) y (nI t))) 6 (upd (Rt 6) t (((Rt 6) t) + 1)))) 2)), ((ar 5), eI C 6 ((sdS n d (y + 1) (sum + (f4_step Rt y t)) (uM (uM Rt 4 (upd (Rt 4) y (nI t))) 6 (upd (Rt 6) t (((Rt 6) t) + 1)))) 3)), ((ar 6), eI C 6 ((sdS n d (y + 1) (sum + (f4_step Rt y t)) (uM (uM Rt 4 (upd (Rt 4) y (nI t))) 6 (upd (Rt 6) t (((Rt 6) t) + 1)))) 4)), ((ar 7), eI C 6 ((sdS n d (y + 1) (sum + (f4_step Rt y t)) (uM (uM Rt 4 (upd (Rt 4) y (nI t))) 6 (upd (Rt 6) t (((Rt 6) t) + 1)))) 5)), ((ar 8), eI C 4 ((sdS n d (y + 1) (sum + (f4_step Rt y t)) (uM (uM Rt 4 (upd (Rt 4) y (nI t))) 6 (upd (Rt 6) t (((Rt 6) t) + 1)))) 6))] := hD
      refine lv_aload_n hx hb dX4_sendTo_60 rfl (lv_at hl 1 rfl) ?_
      refine va_get (D := D) (ci := 4) (C := RX4) (T := TX4) (N := 7) hx hb hW inX4 hown hK hP 0 rfl rfl 3 (by decide) (hW _ (wa tw215 rfl)) (fun _ h9 => h9) rfl dX4_sendTo_61 ?_
      refine lv_iload_n hx hb dX4_sendTo_64 rfl (lv_at hl 2 rfl) ?_
      refine lv_dup2_11 hx hb dX4_sendTo_65 rfl rfl ?_
      refine xiald hx hb hK hP 8 rfl t rfl (by omega) (by decide) dX4_sendTo_66 ?_
      refine lv_iconst (v := 1) hx hb dX4_sendTo_67 (by decide) ?_
      refine lv_isub hx hb dX4_sendTo_68 ?_
      refine xiast hx hb hK hP hD hS 8 rfl t rfl (by omega) (by decide) dX4_sendTo_69 (fun H locs hP hD hS => ?_)
      have hP : va_P D vwCl [((ar 0), .inr (4, [.ref (ar 1), .ref (ar 6), .ref (ar 7), .ref (ar 8), .int ((sdS n d (y + 1) (sum + (f4_step Rt y t)) (uM (uM Rt 4 (upd (Rt 4) y (nI t))) 6 (upd (Rt 6) t (((Rt 6) t) + 1)))) 7 0), .int ((sdS n d (y + 1) (sum + (f4_step Rt y t)) (uM (uM Rt 4 (upd (Rt 4) y (nI t))) 6 (upd (Rt 6) t (((Rt 6) t) + 1)))) 7 1), .int ((sdS n d (y + 1) (sum + (f4_step Rt y t)) (uM (uM Rt 4 (upd (Rt 4) y (nI t))) 6 (upd (Rt 6) t (((Rt 6) t) + 1)))) 7 2)])), ((ar 1), eII C 4 (rr ar 2 4)), ((ar 2), eI C 6 ((sdS n d (y + 1) (sum + (f4_step Rt y t)) (uM (uM Rt 4 (upd (Rt 4) y (nI t))) 6 (upd (Rt 6) t (((Rt 6) t) + 1)))) 0)), ((ar 3), eI C 6 ((sdS n d (y + 1) (sum + (f4_step Rt y t)) (uM (uM Rt 4 (upd (Rt 4) y (nI t))) 6 (upd (Rt 6) t (((Rt 6) t) + 1)))) 1)), ((ar 4), eI C 6 ((sdS n d (y + 1) (sum + (f4_step Rt y t)) (uM (uM Rt 4 (upd (Rt 4) y (nI t))) 6 (upd (Rt 6) t (((Rt 6) t) + 1)))) 2)), ((ar 5), eI C 6 ((sdS n d (y + 1) (sum + (f4_step Rt y t)) (uM (uM Rt 4 (upd (Rt 4) y (nI t))) 6 (upd (Rt 6) t (((Rt 6) t) + 1)))) 3)), ((ar 6), eI C 6 ((sdS n d (y + 1) (sum + (f4_step Rt y t)) (uM (uM Rt 4 (upd (Rt 4) y (nI t))) 6 (upd (Rt 6) t (((Rt 6) t) + 1)))) 4)), ((ar 7), eI C 6 ((sdS n d (y + 1) (sum + (f4_step Rt y t)) (uM (uM Rt 4 (upd (Rt 4) y (nI t))) 6 (upd (Rt 6) t (((Rt 6) t) + 1)))) 5)), ((ar 8), eI C 4 (upd ((sdS n d (y + 1) (sum + (f4_step Rt y t)) (uM (uM Rt 4 (upd (Rt 4) y (nI t))) 6 (upd (Rt 6) t (((Rt 6) t) + 1)))) 6) t ((((sdS n d (y + 1) (sum + (f4_step Rt y t)) (uM (uM Rt 4 (upd (Rt 4) y (nI t))) 6 (upd (Rt 6) t (((Rt 6) t) + 1)))) 6) t) - 1)))] H := hP
      have hD : va_D A [((ar 0), .inr (4, [.ref (ar 1), .ref (ar 6), .ref (ar 7), .ref (ar 8), .int ((sdS n d (y + 1) (sum + (f4_step Rt y t)) (uM (uM Rt 4 (upd (Rt 4) y (nI t))) 6 (upd (Rt 6) t (((Rt 6) t) + 1)))) 7 0), .int ((sdS n d (y + 1) (sum + (f4_step Rt y t)) (uM (uM Rt 4 (upd (Rt 4) y (nI t))) 6 (upd (Rt 6) t (((Rt 6) t) + 1)))) 7 1), .int ((sdS n d (y + 1) (sum + (f4_step Rt y t)) (uM (uM Rt 4 (upd (Rt 4) y (nI t))) 6 (upd (Rt 6) t (((Rt 6) t) + 1)))) 7 2)])), ((ar 1), eII C 4 (rr ar 2 4)), ((ar 2), eI C 6 ((sdS n d (y + 1) (sum + (f4_step Rt y t)) (uM (uM Rt 4 (upd (Rt 4) y (nI t))) 6 (upd (Rt 6) t (((Rt 6) t) + 1)))) 0)), ((ar 3), eI C 6 ((sdS n d (y + 1) (sum + (f4_step Rt y t)) (uM (uM Rt 4 (upd (Rt 4) y (nI t))) 6 (upd (Rt 6) t (((Rt 6) t) + 1)))) 1)), ((ar 4), eI C 6 ((sdS n d (y + 1) (sum + (f4_step Rt y t)) (uM (uM Rt 4 (upd (Rt 4) y (nI t))) 6 (upd (Rt 6) t (((Rt 6) t) + 1)))) 2)), ((ar 5), eI C 6 ((sdS n d (y + 1) (sum + (f4_step Rt y t)) (uM (uM Rt 4 (upd (Rt 4) y (nI t))) 6 (upd (Rt 6) t (((Rt 6) t) + 1)))) 3)), ((ar 6), eI C 6 ((sdS n d (y + 1) (sum + (f4_step Rt y t)) (uM (uM Rt 4 (upd (Rt 4) y (nI t))) 6 (upd (Rt 6) t (((Rt 6) t) + 1)))) 4)), ((ar 7), eI C 6 ((sdS n d (y + 1) (sum + (f4_step Rt y t)) (uM (uM Rt 4 (upd (Rt 4) y (nI t))) 6 (upd (Rt 6) t (((Rt 6) t) + 1)))) 5)), ((ar 8), eI C 4 (upd ((sdS n d (y + 1) (sum + (f4_step Rt y t)) (uM (uM Rt 4 (upd (Rt 4) y (nI t))) 6 (upd (Rt 6) t (((Rt 6) t) + 1)))) 6) t ((((sdS n d (y + 1) (sum + (f4_step Rt y t)) (uM (uM Rt 4 (upd (Rt 4) y (nI t))) 6 (upd (Rt 6) t (((Rt 6) t) + 1)))) 6) t) - 1)))] := hD
      have hb_0 : (sdT (sdS n d (y + 1)) y sum t Rt) = uM (sdS n d (y + 1) (sum + (f4_step Rt y t)) (uM (uM Rt 4 (upd (Rt 4) y (nI t))) 6 (upd (Rt 6) t (((Rt 6) t) + 1)))) 6 (upd ((sdS n d (y + 1) (sum + (f4_step Rt y t)) (uM (uM Rt 4 (upd (Rt 4) y (nI t))) 6 (upd (Rt 6) t (((Rt 6) t) + 1)))) 6) t ((((sdS n d (y + 1) (sum + (f4_step Rt y t)) (uM (uM Rt 4 (upd (Rt 4) y (nI t))) 6 (upd (Rt 6) t (((Rt 6) t) + 1)))) 6) t) - 1)) := by rw [sdT, if_neg c_1, if_neg c_2]
      have hP9 : va_P D vwCl ((wR ar C (sdT (sdS n d (y + 1)) y sum t Rt))) H := by rw [hb_0]; exact hP
      have hD9 : va_D A ((wR ar C (sdT (sdS n d (y + 1)) y sum t Rt))) := by rw [hb_0]; exact hD
      exact W.vret hx hb hr (fun t ht _ => ⟨⟨(), rfl, trivial, ⟨by rw [ht]; exact hP9, by rw [hAe]; exact hD9⟩⟩, hS.F ht⟩) hS.2.2 dX4_sendTo_70

set_option maxHeartbeats 4000000 in
set_option maxRecDepth 100000 in
theorem kX4_send (l : Launch) (D : va_G) (C : Nat → ClassId) (ar : Nat → Nat) (n : Nat) (hn6 : n ≤ 6) : ∀ (d : Nat), ∀ (y : Nat) (sum : Int32) (Rt : Nat → Nat → Int32) (sz : Nat), y + d = n → rtok Rt → Wv l D C yX4_send cX4_send 5 (2 * d + 2) [.ref (ar 0), .int (nI n), .int (nI y), .int sum] (wR ar C Rt) (wR ar C (sdS n d y sum Rt)) sz := by
  intro d
  induction d with
  | zero =>
    intro y sum Rt sz hyd hT
    refine Met.ofW (cc := cX4_send) (maxL := 5) (ret := none) (by decide) rfl ?_
    intro p e s m args below meth c s₁ B hml hv
    obtain ⟨rfl, hsz, hP, hK, hNw, hD0⟩ := hv
    have hx := B.exec
    have hb := B.bytes
    have hr := B.returns
    have hts := atoms_spec (ws := wm yX4_send cX4_send 5 none) B.pre
    have hown : s.vm.findClass RX4 = some m.cls := findClass_of_methodNamed B.named
    have hlocks := B.notSynchronized
    have hW : ∀ w ∈ WA, w.before _ s = true := fun w h => hts w (List.mem_cons_of_mem _ h)
    subst hsz
    have hD := hD0.self (sz := s.heap.size)
    generalize hAe : va_A (wR ar C Rt) s.heap.size = A at hD ⊢
    have hA : ∀ q : Nat, s.heap.size ≤ q → A q := fun q h => by rw [← hAe]; exact Or.inr h
    have hS : va_S A s.heap s.heap [] := va_S.rf
    have hP : va_P D vwCl [((ar 0), .inr (4, [.ref (ar 1), .ref (ar 6), .ref (ar 7), .ref (ar 8), .int (Rt 7 0), .int (Rt 7 1), .int (Rt 7 2)])), ((ar 1), eII C 4 (rr ar 2 4)), ((ar 2), eI C 6 (Rt 0)), ((ar 3), eI C 6 (Rt 1)), ((ar 4), eI C 6 (Rt 2)), ((ar 5), eI C 6 (Rt 3)), ((ar 6), eI C 6 (Rt 4)), ((ar 7), eI C 6 (Rt 5)), ((ar 8), eI C 4 (Rt 6))] s.heap := hP
    have hD : va_D A [((ar 0), .inr (4, [.ref (ar 1), .ref (ar 6), .ref (ar 7), .ref (ar 8), .int (Rt 7 0), .int (Rt 7 1), .int (Rt 7 2)])), ((ar 1), eII C 4 (rr ar 2 4)), ((ar 2), eI C 6 (Rt 0)), ((ar 3), eI C 6 (Rt 1)), ((ar 4), eI C 6 (Rt 2)), ((ar 5), eI C 6 (Rt 3)), ((ar 6), eI C 6 (Rt 4)), ((ar 7), eI C 6 (Rt 5)), ((ar 8), eI C 4 (Rt 6))] := hD
    have hl := lv_entry ([.ref (ar 0), .int (nI n), .int (nI y), .int sum]) (n := 5) (Nat.le_of_ble_eq_true rfl)
    rw [lg_entry_eq]
    generalize (lg_sl ([.ref (ar 0), .int (nI n), .int (nI y), .int sum]) ++ List.replicate (5 - (lg_sl ([.ref (ar 0), .int (nI n), .int (nI y), .int sum])).length) Slot.unset).toArray = ls at hl ⊢
    have hl : lv_has ls 5 [(0, .ref (ar 0)), (1, .int (nI n)), (2, .int (nI y)), (3, .int sum)] := hl
    refine lv_aload_n hx hb dX4_send_0 rfl (lv_at hl 0 rfl) ?_
    refine va_get (D := D) (ci := 4) (C := RX4) (T := TX4) (N := 7) hx hb hW inX4 hown hK hP 0 rfl rfl 6 (by decide) (hW _ (wa tw220 rfl)) (fun _ h9 => h9) rfl dX4_send_1 ?_
    refine lv_iconst (v := (-1)) hx hb dX4_send_4 (by decide) ?_
    refine lv_icmp_eq (tgt := 17) hx hb dX4_send_5 (by decide) (fun c_1 => ?_) (fun c_1 => ?_)
    · refine lv_iload_n hx hb dX4_send_17 rfl (lv_at hl 2 rfl) ?_
      refine lv_iload_n hx hb dX4_send_18 rfl (lv_at hl 1 rfl) ?_
      refine lv_icmp_lt (tgt := 42) hx hb dX4_send_19 (by decide) (fun c_2 => ?_) (fun c_2 => ?_)
      · exact absurd c_2 (q_nlt rfl rfl (by omega) (by omega))
      · refine lv_aload_n hx hb dX4_send_22 rfl (lv_at hl 0 rfl) ?_
        refine lv_iload_n hx hb dX4_send_23 rfl (lv_at hl 3 rfl) ?_
        refine va_put (D := D) (v := .int sum) (ty := .int) (ci := 4) (C := RX4) (T := TX4) (N := 7) hx hb hW inX4 tyX4 tyX4_ok nmX4 hown hK hP hD hS 0 rfl rfl 6 (by decide) (hW _ (wa tw220 rfl)) (fun _ h9 => h9) rfl (by decide +kernel) rfl rfl (Nat.le_of_ble_eq_true rfl) dX4_send_24 (fun H locs hP hD hS => ?_)
        have hP : va_P D vwCl [((ar 0), .inr (4, [.ref (ar 1), .ref (ar 6), .ref (ar 7), .ref (ar 8), .int (Rt 7 0), .int (Rt 7 1), .int sum])), ((ar 1), eII C 4 (rr ar 2 4)), ((ar 2), eI C 6 (Rt 0)), ((ar 3), eI C 6 (Rt 1)), ((ar 4), eI C 6 (Rt 2)), ((ar 5), eI C 6 (Rt 3)), ((ar 6), eI C 6 (Rt 4)), ((ar 7), eI C 6 (Rt 5)), ((ar 8), eI C 4 (Rt 6))] H := hP
        have hD : va_D A [((ar 0), .inr (4, [.ref (ar 1), .ref (ar 6), .ref (ar 7), .ref (ar 8), .int (Rt 7 0), .int (Rt 7 1), .int sum])), ((ar 1), eII C 4 (rr ar 2 4)), ((ar 2), eI C 6 (Rt 0)), ((ar 3), eI C 6 (Rt 1)), ((ar 4), eI C 6 (Rt 2)), ((ar 5), eI C 6 (Rt 3)), ((ar 6), eI C 6 (Rt 4)), ((ar 7), eI C 6 (Rt 5)), ((ar 8), eI C 4 (Rt 6))] := hD
        refine lv_aload_n hx hb dX4_send_27 rfl (lv_at hl 0 rfl) ?_
        refine va_get (D := D) (ci := 4) (C := RX4) (T := TX4) (N := 7) hx hb hW inX4 hown hK hP 0 rfl rfl 1 (by decide) (hW _ (wa tw212 rfl)) (fun _ h9 => h9) rfl dX4_send_28 ?_
        refine lv_iconst (v := 0) hx hb dX4_send_31 (by decide) ?_
        refine lv_aload_n hx hb dX4_send_32 rfl (lv_at hl 0 rfl) ?_
        refine va_get (D := D) (ci := 4) (C := RX4) (T := TX4) (N := 7) hx hb hW inX4 hown hK hP 0 rfl rfl 2 (by decide) (hW _ (wa tw213 rfl)) (fun _ h9 => h9) rfl dX4_send_33 ?_
        refine lv_iconst (v := 0) hx hb dX4_send_36 (by decide) ?_
        refine lv_iload_n hx hb dX4_send_37 rfl (lv_at hl 1 rfl) ?_
        refine xcopy hx hb (hml.trans hl.1.symm) hown (hW _ (wa tw525 rfl)) (hW _ (wa tw527 rfl)) (hW _ (wa tw526 rfl)) (hW _ (wa tw11 rfl)) hK hP hD hS 6 7 rfl rfl n rfl (by omega) (by omega) (by omega) (Nat.le_of_ble_eq_true rfl) (Nat.le_of_ble_eq_true rfl) dX4_send_38 (fun H locs hP hD hS => ?_)
        have hP : va_P D vwCl [((ar 0), .inr (4, [.ref (ar 1), .ref (ar 6), .ref (ar 7), .ref (ar 8), .int (Rt 7 0), .int (Rt 7 1), .int sum])), ((ar 1), eII C 4 (rr ar 2 4)), ((ar 2), eI C 6 (Rt 0)), ((ar 3), eI C 6 (Rt 1)), ((ar 4), eI C 6 (Rt 2)), ((ar 5), eI C 6 (Rt 3)), ((ar 6), eI C 6 (Rt 4)), ((ar 7), eI C 6 (va_cpy (Rt 4) (Rt 5) 0 0 n)), ((ar 8), eI C 4 (Rt 6))] H := hP
        have hD : va_D A [((ar 0), .inr (4, [.ref (ar 1), .ref (ar 6), .ref (ar 7), .ref (ar 8), .int (Rt 7 0), .int (Rt 7 1), .int sum])), ((ar 1), eII C 4 (rr ar 2 4)), ((ar 2), eI C 6 (Rt 0)), ((ar 3), eI C 6 (Rt 1)), ((ar 4), eI C 6 (Rt 2)), ((ar 5), eI C 6 (Rt 3)), ((ar 6), eI C 6 (Rt 4)), ((ar 7), eI C 6 (va_cpy (Rt 4) (Rt 5) 0 0 n)), ((ar 8), eI C 4 (Rt 6))] := hD
        have hb_0 : sdS n 0 y sum Rt = uM (uM Rt 5 (va_cpy (Rt 4) (Rt 5) 0 0 n)) 7 (upd (Rt 7) 2 sum) := by rw [sdS, if_pos (Or.inl c_1)]
        have hP9 : va_P D vwCl (wR ar C (sdS n 0 y sum Rt)) H := by rw [hb_0]; exact hP
        have hD9 : va_D A (wR ar C (sdS n 0 y sum Rt)) := by rw [hb_0]; exact hD
        exact W.vret hx hb hr (fun t ht _ => ⟨⟨(), rfl, trivial, ⟨by rw [ht]; exact hP9, by rw [hAe]; exact hD9⟩⟩, hS.F ht⟩) hS.2.2 dX4_send_41
    · refine lv_iload_n hx hb dX4_send_8 rfl (lv_at hl 3 rfl) ?_
      refine lv_aload_n hx hb dX4_send_9 rfl (lv_at hl 0 rfl) ?_
      refine va_get (D := D) (ci := 4) (C := RX4) (T := TX4) (N := 7) hx hb hW inX4 hown hK hP 0 rfl rfl 6 (by decide) (hW _ (wa tw220 rfl)) (fun _ h9 => h9) rfl dX4_send_10 ?_
      refine lv_icmp_lt (tgt := 17) hx hb dX4_send_13 (by decide) (fun c_3 => ?_) (fun c_3 => ?_)
      · refine lv_iload_n hx hb dX4_send_17 rfl (lv_at hl 2 rfl) ?_
        refine lv_iload_n hx hb dX4_send_18 rfl (lv_at hl 1 rfl) ?_
        refine lv_icmp_lt (tgt := 42) hx hb dX4_send_19 (by decide) (fun c_4 => ?_) (fun c_4 => ?_)
        · exact absurd c_4 (q_nlt rfl rfl (by omega) (by omega))
        · refine lv_aload_n hx hb dX4_send_22 rfl (lv_at hl 0 rfl) ?_
          refine lv_iload_n hx hb dX4_send_23 rfl (lv_at hl 3 rfl) ?_
          refine va_put (D := D) (v := .int sum) (ty := .int) (ci := 4) (C := RX4) (T := TX4) (N := 7) hx hb hW inX4 tyX4 tyX4_ok nmX4 hown hK hP hD hS 0 rfl rfl 6 (by decide) (hW _ (wa tw220 rfl)) (fun _ h9 => h9) rfl (by decide +kernel) rfl rfl (Nat.le_of_ble_eq_true rfl) dX4_send_24 (fun H locs hP hD hS => ?_)
          have hP : va_P D vwCl [((ar 0), .inr (4, [.ref (ar 1), .ref (ar 6), .ref (ar 7), .ref (ar 8), .int (Rt 7 0), .int (Rt 7 1), .int sum])), ((ar 1), eII C 4 (rr ar 2 4)), ((ar 2), eI C 6 (Rt 0)), ((ar 3), eI C 6 (Rt 1)), ((ar 4), eI C 6 (Rt 2)), ((ar 5), eI C 6 (Rt 3)), ((ar 6), eI C 6 (Rt 4)), ((ar 7), eI C 6 (Rt 5)), ((ar 8), eI C 4 (Rt 6))] H := hP
          have hD : va_D A [((ar 0), .inr (4, [.ref (ar 1), .ref (ar 6), .ref (ar 7), .ref (ar 8), .int (Rt 7 0), .int (Rt 7 1), .int sum])), ((ar 1), eII C 4 (rr ar 2 4)), ((ar 2), eI C 6 (Rt 0)), ((ar 3), eI C 6 (Rt 1)), ((ar 4), eI C 6 (Rt 2)), ((ar 5), eI C 6 (Rt 3)), ((ar 6), eI C 6 (Rt 4)), ((ar 7), eI C 6 (Rt 5)), ((ar 8), eI C 4 (Rt 6))] := hD
          refine lv_aload_n hx hb dX4_send_27 rfl (lv_at hl 0 rfl) ?_
          refine va_get (D := D) (ci := 4) (C := RX4) (T := TX4) (N := 7) hx hb hW inX4 hown hK hP 0 rfl rfl 1 (by decide) (hW _ (wa tw212 rfl)) (fun _ h9 => h9) rfl dX4_send_28 ?_
          refine lv_iconst (v := 0) hx hb dX4_send_31 (by decide) ?_
          refine lv_aload_n hx hb dX4_send_32 rfl (lv_at hl 0 rfl) ?_
          refine va_get (D := D) (ci := 4) (C := RX4) (T := TX4) (N := 7) hx hb hW inX4 hown hK hP 0 rfl rfl 2 (by decide) (hW _ (wa tw213 rfl)) (fun _ h9 => h9) rfl dX4_send_33 ?_
          refine lv_iconst (v := 0) hx hb dX4_send_36 (by decide) ?_
          refine lv_iload_n hx hb dX4_send_37 rfl (lv_at hl 1 rfl) ?_
          refine xcopy hx hb (hml.trans hl.1.symm) hown (hW _ (wa tw525 rfl)) (hW _ (wa tw527 rfl)) (hW _ (wa tw526 rfl)) (hW _ (wa tw11 rfl)) hK hP hD hS 6 7 rfl rfl n rfl (by omega) (by omega) (by omega) (Nat.le_of_ble_eq_true rfl) (Nat.le_of_ble_eq_true rfl) dX4_send_38 (fun H locs hP hD hS => ?_)
          have hP : va_P D vwCl [((ar 0), .inr (4, [.ref (ar 1), .ref (ar 6), .ref (ar 7), .ref (ar 8), .int (Rt 7 0), .int (Rt 7 1), .int sum])), ((ar 1), eII C 4 (rr ar 2 4)), ((ar 2), eI C 6 (Rt 0)), ((ar 3), eI C 6 (Rt 1)), ((ar 4), eI C 6 (Rt 2)), ((ar 5), eI C 6 (Rt 3)), ((ar 6), eI C 6 (Rt 4)), ((ar 7), eI C 6 (va_cpy (Rt 4) (Rt 5) 0 0 n)), ((ar 8), eI C 4 (Rt 6))] H := hP
          have hD : va_D A [((ar 0), .inr (4, [.ref (ar 1), .ref (ar 6), .ref (ar 7), .ref (ar 8), .int (Rt 7 0), .int (Rt 7 1), .int sum])), ((ar 1), eII C 4 (rr ar 2 4)), ((ar 2), eI C 6 (Rt 0)), ((ar 3), eI C 6 (Rt 1)), ((ar 4), eI C 6 (Rt 2)), ((ar 5), eI C 6 (Rt 3)), ((ar 6), eI C 6 (Rt 4)), ((ar 7), eI C 6 (va_cpy (Rt 4) (Rt 5) 0 0 n)), ((ar 8), eI C 4 (Rt 6))] := hD
          have hb_0 : sdS n 0 y sum Rt = uM (uM Rt 5 (va_cpy (Rt 4) (Rt 5) 0 0 n)) 7 (upd (Rt 7) 2 sum) := by rw [sdS, if_pos (Or.inr c_3)]
          have hP9 : va_P D vwCl (wR ar C (sdS n 0 y sum Rt)) H := by rw [hb_0]; exact hP
          have hD9 : va_D A (wR ar C (sdS n 0 y sum Rt)) := by rw [hb_0]; exact hD
          exact W.vret hx hb hr (fun t ht _ => ⟨⟨(), rfl, trivial, ⟨by rw [ht]; exact hP9, by rw [hAe]; exact hD9⟩⟩, hS.F ht⟩) hS.2.2 dX4_send_41
      · have hb_0 : sdS n 0 y sum Rt = Rt := by rw [sdS, if_neg (fun z => z.elim c_1 c_3)]
        have hP9 : va_P D vwCl (wR ar C (sdS n 0 y sum Rt)) s.heap := by rw [hb_0]; exact hP
        have hD9 : va_D A (wR ar C (sdS n 0 y sum Rt)) := by rw [hb_0]; exact hD
        exact W.vret hx hb hr (fun t ht _ => ⟨⟨(), rfl, trivial, ⟨by rw [ht]; exact hP9, by rw [hAe]; exact hD9⟩⟩, hS.F ht⟩) hS.2.2 dX4_send_16
  | succ d ihd =>
    intro y sum Rt sz hyd hT
    refine Met.ofW (cc := cX4_send) (maxL := 5) (ret := none) (by decide) rfl ?_
    intro p e s m args below meth c s₁ B hml hv
    obtain ⟨rfl, hsz, hP, hK, hNw, hD0⟩ := hv
    have hx := B.exec
    have hb := B.bytes
    have hr := B.returns
    have hts := atoms_spec (ws := wm yX4_send cX4_send 5 none) B.pre
    have hown : s.vm.findClass RX4 = some m.cls := findClass_of_methodNamed B.named
    have hlocks := B.notSynchronized
    have hW : ∀ w ∈ WA, w.before _ s = true := fun w h => hts w (List.mem_cons_of_mem _ h)
    subst hsz
    have hD := hD0.self (sz := s.heap.size)
    generalize hAe : va_A (wR ar C Rt) s.heap.size = A at hD ⊢
    have hA : ∀ q : Nat, s.heap.size ≤ q → A q := fun q h => by rw [← hAe]; exact Or.inr h
    have hS : va_S A s.heap s.heap [] := va_S.rf
    have hP : va_P D vwCl [((ar 0), .inr (4, [.ref (ar 1), .ref (ar 6), .ref (ar 7), .ref (ar 8), .int (Rt 7 0), .int (Rt 7 1), .int (Rt 7 2)])), ((ar 1), eII C 4 (rr ar 2 4)), ((ar 2), eI C 6 (Rt 0)), ((ar 3), eI C 6 (Rt 1)), ((ar 4), eI C 6 (Rt 2)), ((ar 5), eI C 6 (Rt 3)), ((ar 6), eI C 6 (Rt 4)), ((ar 7), eI C 6 (Rt 5)), ((ar 8), eI C 4 (Rt 6))] s.heap := hP
    have hD : va_D A [((ar 0), .inr (4, [.ref (ar 1), .ref (ar 6), .ref (ar 7), .ref (ar 8), .int (Rt 7 0), .int (Rt 7 1), .int (Rt 7 2)])), ((ar 1), eII C 4 (rr ar 2 4)), ((ar 2), eI C 6 (Rt 0)), ((ar 3), eI C 6 (Rt 1)), ((ar 4), eI C 6 (Rt 2)), ((ar 5), eI C 6 (Rt 3)), ((ar 6), eI C 6 (Rt 4)), ((ar 7), eI C 6 (Rt 5)), ((ar 8), eI C 4 (Rt 6))] := hD
    have hl := lv_entry ([.ref (ar 0), .int (nI n), .int (nI y), .int sum]) (n := 5) (Nat.le_of_ble_eq_true rfl)
    rw [lg_entry_eq]
    generalize (lg_sl ([.ref (ar 0), .int (nI n), .int (nI y), .int sum]) ++ List.replicate (5 - (lg_sl ([.ref (ar 0), .int (nI n), .int (nI y), .int sum])).length) Slot.unset).toArray = ls at hl ⊢
    have hl : lv_has ls 5 [(0, .ref (ar 0)), (1, .int (nI n)), (2, .int (nI y)), (3, .int sum)] := hl
    refine lv_aload_n hx hb dX4_send_0 rfl (lv_at hl 0 rfl) ?_
    refine va_get (D := D) (ci := 4) (C := RX4) (T := TX4) (N := 7) hx hb hW inX4 hown hK hP 0 rfl rfl 6 (by decide) (hW _ (wa tw220 rfl)) (fun _ h9 => h9) rfl dX4_send_1 ?_
    refine lv_iconst (v := (-1)) hx hb dX4_send_4 (by decide) ?_
    refine lv_icmp_eq (tgt := 17) hx hb dX4_send_5 (by decide) (fun c_1 => ?_) (fun c_1 => ?_)
    · refine lv_iload_n hx hb dX4_send_17 rfl (lv_at hl 2 rfl) ?_
      refine lv_iload_n hx hb dX4_send_18 rfl (lv_at hl 1 rfl) ?_
      refine lv_icmp_lt (tgt := 42) hx hb dX4_send_19 (by decide) (fun c_2 => ?_) (fun c_2 => ?_)
      · refine lv_iconst (v := 0) hx hb dX4_send_42 (by decide) ?_
        refine lv_istore (lv' := [(4, .int 0), (0, .ref (ar 0)), (1, .int (nI n)), (2, .int (nI y)), (3, .int sum)]) hx hb dX4_send_43 hl (by decide) rfl (fun ls hl => ?_)
        refine xgen hP hS (fun H locs hP hS => ?_)
        obtain ⟨n45, t, Rv, hinv⟩ : ∃ (n45 : Nat) (t : Nat) (Rv : Nat → Nat → Int32), (t + n45 = 4) ∧ (sdF (sdS n d (y + 1)) y sum n45 t Rv = sdF (sdS n d (y + 1)) y sum 4 0 Rt) ∧ (rtok Rv) ∧ lv_has ls 5 [(0, .ref (ar 0)), (1, .int (nI n)), (2, .int (nI y)), (3, .int sum), (4, .int (nI t))] ∧ va_P D vwCl [((ar 0), .inr (4, [.ref (ar 1), .ref (ar 6), .ref (ar 7), .ref (ar 8), .int (Rv 7 0), .int (Rv 7 1), .int (Rv 7 2)])), ((ar 1), eII C 4 (rr ar 2 4)), ((ar 2), eI C 6 (Rv 0)), ((ar 3), eI C 6 (Rv 1)), ((ar 4), eI C 6 (Rv 2)), ((ar 5), eI C 6 (Rv 3)), ((ar 6), eI C 6 (Rv 4)), ((ar 7), eI C 6 (Rv 5)), ((ar 8), eI C 4 (Rv 6))] H ∧ va_D A [((ar 0), .inr (4, [.ref (ar 1), .ref (ar 6), .ref (ar 7), .ref (ar 8), .int (Rv 7 0), .int (Rv 7 1), .int (Rv 7 2)])), ((ar 1), eII C 4 (rr ar 2 4)), ((ar 2), eI C 6 (Rv 0)), ((ar 3), eI C 6 (Rv 1)), ((ar 4), eI C 6 (Rv 2)), ((ar 5), eI C 6 (Rv 3)), ((ar 6), eI C 6 (Rv 4)), ((ar 7), eI C 6 (Rv 5)), ((ar 8), eI C 4 (Rv 6))] ∧ va_S A s.heap H locs := ⟨4, 0, Rt, rfl, rfl, hT, lv_sub hl [1, 2, 3, 4, 0] rfl, hP, hD, hS⟩
        clear hl hP hD hS
        induction n45 generalizing t Rv ls H locs with
        | zero =>
          obtain ⟨h45_0, h45_1, h45_2, hl, hP, hD, hS⟩ := hinv
          refine lv_iload hx hb dX4_send_45 (lv_at hl 4 rfl) ?_
          refine lv_iconst (v := 4) hx hb dX4_send_47 (by decide) ?_
          refine lv_icmp_ge (tgt := 66) hx hb dX4_send_48 (by decide) (fun c_3 => ?_) (fun c_3 => ?_)
          · have e_R : Rv = sdF (sdS n d (y + 1)) y sum 4 0 Rt := h45_1
            subst e_R
            have hb_0 : sdS n (d + 1) y sum Rt = sdF (sdS n d (y + 1)) y sum 4 0 Rt := by rw [sdS, if_pos (Or.inl c_1)]
            have hP9 : va_P D vwCl (wR ar C (sdS n (d + 1) y sum Rt)) H := by rw [hb_0]; exact hP
            have hD9 : va_D A (wR ar C (sdS n (d + 1) y sum Rt)) := by rw [hb_0]; exact hD
            exact W.vret hx hb hr (fun t ht _ => ⟨⟨(), rfl, trivial, ⟨by rw [ht]; exact hP9, by rw [hAe]; exact hD9⟩⟩, hS.F ht⟩) hS.2.2 dX4_send_66
          · exact absurd (q_le (nI_lit 4) rfl (by omega) (by omega)) c_3
        | succ n45 ih45 =>
          obtain ⟨h45_0, h45_1, h45_2, hl, hP, hD, hS⟩ := hinv
          refine lv_iload hx hb dX4_send_45 (lv_at hl 4 rfl) ?_
          refine lv_iconst (v := 4) hx hb dX4_send_47 (by decide) ?_
          refine lv_icmp_ge (tgt := 66) hx hb dX4_send_48 (by decide) (fun c_4 => ?_) (fun c_4 => ?_)
          · exact absurd c_4 (q_nle (nI_lit 4) rfl (by omega) (by omega))
          · refine lv_aload_n hx hb dX4_send_51 rfl (lv_at hl 0 rfl) ?_
            refine lv_iload hx hb dX4_send_52 (lv_at hl 4 rfl) ?_
            refine lv_iload_n hx hb dX4_send_54 rfl (lv_at hl 1 rfl) ?_
            refine lv_iload_n hx hb dX4_send_55 rfl (lv_at hl 2 rfl) ?_
            refine lv_iload_n hx hb dX4_send_56 rfl (lv_at hl 3 rfl) ?_
            refine xwv (wr := []) (rV (As := [.int (nI t), .int (nI n), .int (nI y), .int sum]) (n := 4) (rest := []) ⟨hx, hb, hml, hown, hW⟩ (kX4_sendTo l D C ar Rv d n y t sum H.size hn6 (by omega) (by omega) h45_2 ihd) (wa tw531 rfl) (wa tw528 rfl) (wa tw530 rfl) (was ts35 rfl) (wa tw7 rfl) (by decide +kernel) ⟨show 2 * d + 3 + 1 ≤ 2 * (d + 1) + 2 by omega, show 8 + (6 + 11) + 40 * (2 * d + 3) ≤ 40 * (2 * (d + 1) + 2) by omega⟩ (pVw hP hD hK hNw 0 rfl rfl) hl.1 rfl (Nat.le_of_ble_eq_true rfl) dX4_send_57 ⟨Nat.le_of_ble_eq_true rfl, Nat.le_of_ble_eq_true rfl⟩ rfl rfl rfl) hP hD hS hA [0, 1, 2, 3, 4, 5, 6, 7, 8] [] rfl rfl (by decide) (by decide) (fun H locs hP hD hS => ?_)
            have hP : va_P D vwCl [((ar 0), .inr (4, [.ref (ar 1), .ref (ar 6), .ref (ar 7), .ref (ar 8), .int ((sdT (sdS n d (y + 1)) y sum t Rv) 7 0), .int ((sdT (sdS n d (y + 1)) y sum t Rv) 7 1), .int ((sdT (sdS n d (y + 1)) y sum t Rv) 7 2)])), ((ar 1), eII C 4 (rr ar 2 4)), ((ar 2), eI C 6 ((sdT (sdS n d (y + 1)) y sum t Rv) 0)), ((ar 3), eI C 6 ((sdT (sdS n d (y + 1)) y sum t Rv) 1)), ((ar 4), eI C 6 ((sdT (sdS n d (y + 1)) y sum t Rv) 2)), ((ar 5), eI C 6 ((sdT (sdS n d (y + 1)) y sum t Rv) 3)), ((ar 6), eI C 6 ((sdT (sdS n d (y + 1)) y sum t Rv) 4)), ((ar 7), eI C 6 ((sdT (sdS n d (y + 1)) y sum t Rv) 5)), ((ar 8), eI C 4 ((sdT (sdS n d (y + 1)) y sum t Rv) 6))] H := hP
            have hD : va_D A [((ar 0), .inr (4, [.ref (ar 1), .ref (ar 6), .ref (ar 7), .ref (ar 8), .int ((sdT (sdS n d (y + 1)) y sum t Rv) 7 0), .int ((sdT (sdS n d (y + 1)) y sum t Rv) 7 1), .int ((sdT (sdS n d (y + 1)) y sum t Rv) 7 2)])), ((ar 1), eII C 4 (rr ar 2 4)), ((ar 2), eI C 6 ((sdT (sdS n d (y + 1)) y sum t Rv) 0)), ((ar 3), eI C 6 ((sdT (sdS n d (y + 1)) y sum t Rv) 1)), ((ar 4), eI C 6 ((sdT (sdS n d (y + 1)) y sum t Rv) 2)), ((ar 5), eI C 6 ((sdT (sdS n d (y + 1)) y sum t Rv) 3)), ((ar 6), eI C 6 ((sdT (sdS n d (y + 1)) y sum t Rv) 4)), ((ar 7), eI C 6 ((sdT (sdS n d (y + 1)) y sum t Rv) 5)), ((ar 8), eI C 4 ((sdT (sdS n d (y + 1)) y sum t Rv) 6))] := hD
            refine lv_iinc (v := nI t + 1) (lv' := [(4, .int (nI t + 1)), (0, .ref (ar 0)), (1, .int (nI n)), (2, .int (nI y)), (3, .int sum)]) hx hb dX4_send_60 hl (k := 4) rfl rfl (by decide) rfl (fun ls hl => ?_)
            refine lv_goto (tgt := 45) hx hb dX4_send_63 (by decide) ?_
            rw [nI_1] at hl
            exact ih45 (t := t + 1) (Rv := (sdT (sdS n d (y + 1)) y sum t Rv)) (ls := ls) (H := H) (locs := locs) ⟨by omega, by rw [← h45_1, sdF_step], sdT_ok (fun sum Rt h => sdS_ok n d (y + 1) sum Rt h) y sum t (by omega) Rv h45_2, lv_sub hl [1, 2, 3, 4, 0] rfl, hP, hD, hS⟩
      · exact absurd (q_lt rfl rfl (by omega) (by omega)) c_2
    · refine lv_iload_n hx hb dX4_send_8 rfl (lv_at hl 3 rfl) ?_
      refine lv_aload_n hx hb dX4_send_9 rfl (lv_at hl 0 rfl) ?_
      refine va_get (D := D) (ci := 4) (C := RX4) (T := TX4) (N := 7) hx hb hW inX4 hown hK hP 0 rfl rfl 6 (by decide) (hW _ (wa tw220 rfl)) (fun _ h9 => h9) rfl dX4_send_10 ?_
      refine lv_icmp_lt (tgt := 17) hx hb dX4_send_13 (by decide) (fun c_5 => ?_) (fun c_5 => ?_)
      · refine lv_iload_n hx hb dX4_send_17 rfl (lv_at hl 2 rfl) ?_
        refine lv_iload_n hx hb dX4_send_18 rfl (lv_at hl 1 rfl) ?_
        refine lv_icmp_lt (tgt := 42) hx hb dX4_send_19 (by decide) (fun c_6 => ?_) (fun c_6 => ?_)
        · refine lv_iconst (v := 0) hx hb dX4_send_42 (by decide) ?_
          refine lv_istore (lv' := [(4, .int 0), (0, .ref (ar 0)), (1, .int (nI n)), (2, .int (nI y)), (3, .int sum)]) hx hb dX4_send_43 hl (by decide) rfl (fun ls hl => ?_)
          refine xgen hP hS (fun H locs hP hS => ?_)
          obtain ⟨n45, t, Rv, hinv⟩ : ∃ (n45 : Nat) (t : Nat) (Rv : Nat → Nat → Int32), (t + n45 = 4) ∧ (sdF (sdS n d (y + 1)) y sum n45 t Rv = sdF (sdS n d (y + 1)) y sum 4 0 Rt) ∧ (rtok Rv) ∧ lv_has ls 5 [(0, .ref (ar 0)), (1, .int (nI n)), (2, .int (nI y)), (3, .int sum), (4, .int (nI t))] ∧ va_P D vwCl [((ar 0), .inr (4, [.ref (ar 1), .ref (ar 6), .ref (ar 7), .ref (ar 8), .int (Rv 7 0), .int (Rv 7 1), .int (Rv 7 2)])), ((ar 1), eII C 4 (rr ar 2 4)), ((ar 2), eI C 6 (Rv 0)), ((ar 3), eI C 6 (Rv 1)), ((ar 4), eI C 6 (Rv 2)), ((ar 5), eI C 6 (Rv 3)), ((ar 6), eI C 6 (Rv 4)), ((ar 7), eI C 6 (Rv 5)), ((ar 8), eI C 4 (Rv 6))] H ∧ va_D A [((ar 0), .inr (4, [.ref (ar 1), .ref (ar 6), .ref (ar 7), .ref (ar 8), .int (Rv 7 0), .int (Rv 7 1), .int (Rv 7 2)])), ((ar 1), eII C 4 (rr ar 2 4)), ((ar 2), eI C 6 (Rv 0)), ((ar 3), eI C 6 (Rv 1)), ((ar 4), eI C 6 (Rv 2)), ((ar 5), eI C 6 (Rv 3)), ((ar 6), eI C 6 (Rv 4)), ((ar 7), eI C 6 (Rv 5)), ((ar 8), eI C 4 (Rv 6))] ∧ va_S A s.heap H locs := ⟨4, 0, Rt, rfl, rfl, hT, lv_sub hl [1, 2, 3, 4, 0] rfl, hP, hD, hS⟩
          clear hl hP hD hS
          induction n45 generalizing t Rv ls H locs with
          | zero =>
            obtain ⟨h45_0, h45_1, h45_2, hl, hP, hD, hS⟩ := hinv
            refine lv_iload hx hb dX4_send_45 (lv_at hl 4 rfl) ?_
            refine lv_iconst (v := 4) hx hb dX4_send_47 (by decide) ?_
            refine lv_icmp_ge (tgt := 66) hx hb dX4_send_48 (by decide) (fun c_7 => ?_) (fun c_7 => ?_)
            · have e_R : Rv = sdF (sdS n d (y + 1)) y sum 4 0 Rt := h45_1
              subst e_R
              have hb_0 : sdS n (d + 1) y sum Rt = sdF (sdS n d (y + 1)) y sum 4 0 Rt := by rw [sdS, if_pos (Or.inr c_5)]
              have hP9 : va_P D vwCl (wR ar C (sdS n (d + 1) y sum Rt)) H := by rw [hb_0]; exact hP
              have hD9 : va_D A (wR ar C (sdS n (d + 1) y sum Rt)) := by rw [hb_0]; exact hD
              exact W.vret hx hb hr (fun t ht _ => ⟨⟨(), rfl, trivial, ⟨by rw [ht]; exact hP9, by rw [hAe]; exact hD9⟩⟩, hS.F ht⟩) hS.2.2 dX4_send_66
            · exact absurd (q_le (nI_lit 4) rfl (by omega) (by omega)) c_7
          | succ n45 ih45 =>
            obtain ⟨h45_0, h45_1, h45_2, hl, hP, hD, hS⟩ := hinv
            refine lv_iload hx hb dX4_send_45 (lv_at hl 4 rfl) ?_
            refine lv_iconst (v := 4) hx hb dX4_send_47 (by decide) ?_
            refine lv_icmp_ge (tgt := 66) hx hb dX4_send_48 (by decide) (fun c_8 => ?_) (fun c_8 => ?_)
            · exact absurd c_8 (q_nle (nI_lit 4) rfl (by omega) (by omega))
            · refine lv_aload_n hx hb dX4_send_51 rfl (lv_at hl 0 rfl) ?_
              refine lv_iload hx hb dX4_send_52 (lv_at hl 4 rfl) ?_
              refine lv_iload_n hx hb dX4_send_54 rfl (lv_at hl 1 rfl) ?_
              refine lv_iload_n hx hb dX4_send_55 rfl (lv_at hl 2 rfl) ?_
              refine lv_iload_n hx hb dX4_send_56 rfl (lv_at hl 3 rfl) ?_
              refine xwv (wr := []) (rV (As := [.int (nI t), .int (nI n), .int (nI y), .int sum]) (n := 4) (rest := []) ⟨hx, hb, hml, hown, hW⟩ (kX4_sendTo l D C ar Rv d n y t sum H.size hn6 (by omega) (by omega) h45_2 ihd) (wa tw531 rfl) (wa tw528 rfl) (wa tw530 rfl) (was ts35 rfl) (wa tw7 rfl) (by decide +kernel) ⟨show 2 * d + 3 + 1 ≤ 2 * (d + 1) + 2 by omega, show 8 + (6 + 11) + 40 * (2 * d + 3) ≤ 40 * (2 * (d + 1) + 2) by omega⟩ (pVw hP hD hK hNw 0 rfl rfl) hl.1 rfl (Nat.le_of_ble_eq_true rfl) dX4_send_57 ⟨Nat.le_of_ble_eq_true rfl, Nat.le_of_ble_eq_true rfl⟩ rfl rfl rfl) hP hD hS hA [0, 1, 2, 3, 4, 5, 6, 7, 8] [] rfl rfl (by decide) (by decide) (fun H locs hP hD hS => ?_)
              have hP : va_P D vwCl [((ar 0), .inr (4, [.ref (ar 1), .ref (ar 6), .ref (ar 7), .ref (ar 8), .int ((sdT (sdS n d (y + 1)) y sum t Rv) 7 0), .int ((sdT (sdS n d (y + 1)) y sum t Rv) 7 1), .int ((sdT (sdS n d (y + 1)) y sum t Rv) 7 2)])), ((ar 1), eII C 4 (rr ar 2 4)), ((ar 2), eI C 6 ((sdT (sdS n d (y + 1)) y sum t Rv) 0)), ((ar 3), eI C 6 ((sdT (sdS n d (y + 1)) y sum t Rv) 1)), ((ar 4), eI C 6 ((sdT (sdS n d (y + 1)) y sum t Rv) 2)), ((ar 5), eI C 6 ((sdT (sdS n d (y + 1)) y sum t Rv) 3)), ((ar 6), eI C 6 ((sdT (sdS n d (y + 1)) y sum t Rv) 4)), ((ar 7), eI C 6 ((sdT (sdS n d (y + 1)) y sum t Rv) 5)), ((ar 8), eI C 4 ((sdT (sdS n d (y + 1)) y sum t Rv) 6))] H := hP
              have hD : va_D A [((ar 0), .inr (4, [.ref (ar 1), .ref (ar 6), .ref (ar 7), .ref (ar 8), .int ((sdT (sdS n d (y + 1)) y sum t Rv) 7 0), .int ((sdT (sdS n d (y + 1)) y sum t Rv) 7 1), .int ((sdT (sdS n d (y + 1)) y sum t Rv) 7 2)])), ((ar 1), eII C 4 (rr ar 2 4)), ((ar 2), eI C 6 ((sdT (sdS n d (y + 1)) y sum t Rv) 0)), ((ar 3), eI C 6 ((sdT (sdS n d (y + 1)) y sum t Rv) 1)), ((ar 4), eI C 6 ((sdT (sdS n d (y + 1)) y sum t Rv) 2)), ((ar 5), eI C 6 ((sdT (sdS n d (y + 1)) y sum t Rv) 3)), ((ar 6), eI C 6 ((sdT (sdS n d (y + 1)) y sum t Rv) 4)), ((ar 7), eI C 6 ((sdT (sdS n d (y + 1)) y sum t Rv) 5)), ((ar 8), eI C 4 ((sdT (sdS n d (y + 1)) y sum t Rv) 6))] := hD
              refine lv_iinc (v := nI t + 1) (lv' := [(4, .int (nI t + 1)), (0, .ref (ar 0)), (1, .int (nI n)), (2, .int (nI y)), (3, .int sum)]) hx hb dX4_send_60 hl (k := 4) rfl rfl (by decide) rfl (fun ls hl => ?_)
              refine lv_goto (tgt := 45) hx hb dX4_send_63 (by decide) ?_
              rw [nI_1] at hl
              exact ih45 (t := t + 1) (Rv := (sdT (sdS n d (y + 1)) y sum t Rv)) (ls := ls) (H := H) (locs := locs) ⟨by omega, by rw [← h45_1, sdF_step], sdT_ok (fun sum Rt h => sdS_ok n d (y + 1) sum Rt h) y sum t (by omega) Rv h45_2, lv_sub hl [1, 2, 3, 4, 0] rfl, hP, hD, hS⟩
        · exact absurd (q_lt rfl rfl (by omega) (by omega)) c_6
      · have hb_0 : sdS n (d + 1) y sum Rt = Rt := by rw [sdS, if_neg (fun z => z.elim c_1 c_5)]
        have hP9 : va_P D vwCl (wR ar C (sdS n (d + 1) y sum Rt)) s.heap := by rw [hb_0]; exact hP
        have hD9 : va_D A (wR ar C (sdS n (d + 1) y sum Rt)) := by rw [hb_0]; exact hD
        exact W.vret hx hb hr (fun t ht _ => ⟨⟨(), rfl, trivial, ⟨by rw [ht]; exact hP9, by rw [hAe]; exact hD9⟩⟩, hS.F ht⟩) hS.2.2 dX4_send_16

def f4_ok (Rt : Nat → Nat → Int32) : Int32 := if Rt 7 2 = (-1) then 0 else 1
def f4_make (n : Nat) (Rt : Nat → Nat → Int32) : Nat → Nat → Int32 := sdS n n 0 0 (uM Rt 7 (upd (Rt 7) 2 (-1)))

set_option maxHeartbeats 4000000 in
set_option maxRecDepth 100000 in
theorem kX4_make (l : Launch) (D : va_G) (C : Nat → ClassId) (ar : Nat → Nat) (Rt : Nat → Nat → Int32) (n : Nat) (sz : Nat) (hn6 : n ≤ 6) (hT : rtok Rt) : Wi l D C yX4_make cX4_make 2 .boolean 15 [.ref (ar 0), .int (nI n)] (wR ar C Rt) ((wR ar C (f4_make n Rt))) (f4_ok (f4_make n Rt)) sz := by
  refine Met.ofW (cc := cX4_make) (maxL := 2) (ret := (some .boolean)) (by decide) rfl ?_
  intro p e s m args below meth c s₁ B hml hv
  obtain ⟨rfl, hsz, hP, hK, hNw, hD0⟩ := hv
  have hx := B.exec
  have hb := B.bytes
  have hr := B.returns
  have hts := atoms_spec (ws := wm yX4_make cX4_make 2 (some .boolean)) B.pre
  have hown : s.vm.findClass RX4 = some m.cls := findClass_of_methodNamed B.named
  have hlocks := B.notSynchronized
  have hW : ∀ w ∈ WA, w.before _ s = true := fun w h => hts w (List.mem_cons_of_mem _ h)
  subst hsz
  have hD := hD0.self (sz := s.heap.size)
  generalize hAe : va_A (wR ar C Rt) s.heap.size = A at hD ⊢
  have hA : ∀ q : Nat, s.heap.size ≤ q → A q := fun q h => by rw [← hAe]; exact Or.inr h
  have hS : va_S A s.heap s.heap [] := va_S.rf
  have hP : va_P D vwCl [((ar 0), .inr (4, [.ref (ar 1), .ref (ar 6), .ref (ar 7), .ref (ar 8), .int (Rt 7 0), .int (Rt 7 1), .int (Rt 7 2)])), ((ar 1), eII C 4 (rr ar 2 4)), ((ar 2), eI C 6 (Rt 0)), ((ar 3), eI C 6 (Rt 1)), ((ar 4), eI C 6 (Rt 2)), ((ar 5), eI C 6 (Rt 3)), ((ar 6), eI C 6 (Rt 4)), ((ar 7), eI C 6 (Rt 5)), ((ar 8), eI C 4 (Rt 6))] s.heap := hP
  have hD : va_D A [((ar 0), .inr (4, [.ref (ar 1), .ref (ar 6), .ref (ar 7), .ref (ar 8), .int (Rt 7 0), .int (Rt 7 1), .int (Rt 7 2)])), ((ar 1), eII C 4 (rr ar 2 4)), ((ar 2), eI C 6 (Rt 0)), ((ar 3), eI C 6 (Rt 1)), ((ar 4), eI C 6 (Rt 2)), ((ar 5), eI C 6 (Rt 3)), ((ar 6), eI C 6 (Rt 4)), ((ar 7), eI C 6 (Rt 5)), ((ar 8), eI C 4 (Rt 6))] := hD
  have hl := lv_entry ([.ref (ar 0), .int (nI n)]) (n := 2) (Nat.le_of_ble_eq_true rfl)
  rw [lg_entry_eq]
  generalize (lg_sl ([.ref (ar 0), .int (nI n)]) ++ List.replicate (2 - (lg_sl ([.ref (ar 0), .int (nI n)])).length) Slot.unset).toArray = ls at hl ⊢
  have hl : lv_has ls 2 [(0, .ref (ar 0)), (1, .int (nI n))] := hl
  refine lv_aload_n hx hb dX4_make_0 rfl (lv_at hl 0 rfl) ?_
  refine lv_iconst (v := (-1)) hx hb dX4_make_1 (by decide) ?_
  refine va_put (D := D) (v := .int (-1)) (ty := .int) (ci := 4) (C := RX4) (T := TX4) (N := 7) hx hb hW inX4 tyX4 tyX4_ok nmX4 hown hK hP hD hS 0 rfl rfl 6 (by decide) (hW _ (wa tw220 rfl)) (fun _ h9 => h9) rfl (by decide +kernel) rfl rfl (Nat.le_of_ble_eq_true rfl) dX4_make_2 (fun H locs hP hD hS => ?_)
  have hP : va_P D vwCl [((ar 0), .inr (4, [.ref (ar 1), .ref (ar 6), .ref (ar 7), .ref (ar 8), .int (Rt 7 0), .int (Rt 7 1), .int (-1)])), ((ar 1), eII C 4 (rr ar 2 4)), ((ar 2), eI C 6 (Rt 0)), ((ar 3), eI C 6 (Rt 1)), ((ar 4), eI C 6 (Rt 2)), ((ar 5), eI C 6 (Rt 3)), ((ar 6), eI C 6 (Rt 4)), ((ar 7), eI C 6 (Rt 5)), ((ar 8), eI C 4 (Rt 6))] H := hP
  have hD : va_D A [((ar 0), .inr (4, [.ref (ar 1), .ref (ar 6), .ref (ar 7), .ref (ar 8), .int (Rt 7 0), .int (Rt 7 1), .int (-1)])), ((ar 1), eII C 4 (rr ar 2 4)), ((ar 2), eI C 6 (Rt 0)), ((ar 3), eI C 6 (Rt 1)), ((ar 4), eI C 6 (Rt 2)), ((ar 5), eI C 6 (Rt 3)), ((ar 6), eI C 6 (Rt 4)), ((ar 7), eI C 6 (Rt 5)), ((ar 8), eI C 4 (Rt 6))] := hD
  refine lv_aload_n hx hb dX4_make_5 rfl (lv_at hl 0 rfl) ?_
  refine lv_iload_n hx hb dX4_make_6 rfl (lv_at hl 1 rfl) ?_
  refine lv_iconst (v := 0) hx hb dX4_make_7 (by decide) ?_
  refine lv_iconst (v := 0) hx hb dX4_make_8 (by decide) ?_
  refine xwv (wr := []) (rV (As := [.int (nI n), .int 0, .int 0]) (n := 3) (rest := []) ⟨hx, hb, hml, hown, hW⟩ (kX4_send l D C ar n hn6 n 0 0 (uM Rt 7 (upd (Rt 7) 2 (-1))) H.size (by omega) hT) (wa tw524 rfl) (wa tw521 rfl) (wa tw523 rfl) (was ts34 rfl) (wa tw7 rfl) (by decide +kernel) ⟨show 2 * n + 2 + 1 ≤ 15 by omega, show 8 + (5 + 11) + 40 * (2 * n + 2) ≤ 40 * (15) by omega⟩ (pVw hP hD hK hNw 0 rfl rfl) hl.1 rfl (Nat.le_of_ble_eq_true rfl) dX4_make_9 ⟨Nat.le_of_ble_eq_true rfl, Nat.le_of_ble_eq_true rfl⟩ rfl rfl rfl) hP hD hS hA [0, 1, 2, 3, 4, 5, 6, 7, 8] [] rfl rfl (by decide) (by decide) (fun H locs hP hD hS => ?_)
  have hP : va_P D vwCl [((ar 0), .inr (4, [.ref (ar 1), .ref (ar 6), .ref (ar 7), .ref (ar 8), .int ((f4_make n Rt) 7 0), .int ((f4_make n Rt) 7 1), .int ((f4_make n Rt) 7 2)])), ((ar 1), eII C 4 (rr ar 2 4)), ((ar 2), eI C 6 ((f4_make n Rt) 0)), ((ar 3), eI C 6 ((f4_make n Rt) 1)), ((ar 4), eI C 6 ((f4_make n Rt) 2)), ((ar 5), eI C 6 ((f4_make n Rt) 3)), ((ar 6), eI C 6 ((f4_make n Rt) 4)), ((ar 7), eI C 6 ((f4_make n Rt) 5)), ((ar 8), eI C 4 ((f4_make n Rt) 6))] H := hP
  have hD : va_D A [((ar 0), .inr (4, [.ref (ar 1), .ref (ar 6), .ref (ar 7), .ref (ar 8), .int ((f4_make n Rt) 7 0), .int ((f4_make n Rt) 7 1), .int ((f4_make n Rt) 7 2)])), ((ar 1), eII C 4 (rr ar 2 4)), ((ar 2), eI C 6 ((f4_make n Rt) 0)), ((ar 3), eI C 6 ((f4_make n Rt) 1)), ((ar 4), eI C 6 ((f4_make n Rt) 2)), ((ar 5), eI C 6 ((f4_make n Rt) 3)), ((ar 6), eI C 6 ((f4_make n Rt) 4)), ((ar 7), eI C 6 ((f4_make n Rt) 5)), ((ar 8), eI C 4 ((f4_make n Rt) 6))] := hD
  refine lv_aload_n hx hb dX4_make_12 rfl (lv_at hl 0 rfl) ?_
  refine va_get (D := D) (ci := 4) (C := RX4) (T := TX4) (N := 7) hx hb hW inX4 hown hK hP 0 rfl rfl 6 (by decide) (hW _ (wa tw220 rfl)) (fun _ h9 => h9) rfl dX4_make_13 ?_
  refine lv_iconst (v := (-1)) hx hb dX4_make_16 (by decide) ?_
  refine lv_icmp_eq (tgt := 24) hx hb dX4_make_17 (by decide) (fun c_1 => ?_) (fun c_1 => ?_)
  · refine lv_iconst (v := 0) hx hb dX4_make_24 (by decide) ?_
    have hP9 : va_P D vwCl ((wR ar C (f4_make n Rt))) H := hP
    have hD9 : va_D A ((wR ar C (f4_make n Rt))) := hD
    exact W.zret (v := 0) hx hb hr rfl (fun t ht _ => ⟨⟨_, (), rfl, (by rw [f4_ok, if_pos c_1]), ⟨by rw [ht]; exact hP9, by rw [hAe]; exact hD9⟩⟩, hS.F ht⟩) hS.2.2 dX4_make_25
  · refine lv_iconst (v := 1) hx hb dX4_make_20 (by decide) ?_
    refine lv_goto (tgt := 25) hx hb dX4_make_21 (by decide) ?_
    have hP9 : va_P D vwCl ((wR ar C (f4_make n Rt))) H := hP
    have hD9 : va_D A ((wR ar C (f4_make n Rt))) := hD
    exact W.zret (v := 1) hx hb hr rfl (fun t ht _ => ⟨⟨_, (), rfl, (by rw [f4_ok, if_neg c_1]), ⟨by rw [ht]; exact hP9, by rw [hAe]; exact hD9⟩⟩, hS.F ht⟩) hS.2.2 dX4_make_25
