def ms0 (S : Nat → Int64) : Nat → Int64 := vp_updL (vp_updL (vp_updL (vp_updL S 0 0) 1 0) 2 0) 3 0
def ms1 (r : Int64) (S : Nat → Int64) : Nat → Int64 := vp_updL S 0 (S 0 + r)
def ms2 (r x : Int64) (S : Nat → Int64) : Nat → Int64 := vp_updL (ms1 r S) 1 (ms1 r S 1 + r * x)
def ms3 (r x y : Int64) (S : Nat → Int64) : Nat → Int64 := vp_updL (ms2 r x S) 2 (ms2 r x S 2 + r * y)
def ms4 (r x y : Int64) (S : Nat → Int64) : Nat → Int64 := vp_updL (ms3 r x y S) 3 (ms3 r x y S 3 + r * r)
def msL (rd : Nat → Int32) (M : Nat → Nat → Int32) (model set : Int32) : Nat → Nat → (Nat → Int64) → Nat → Int64
  | 0, _, S => S
  | n + 1, k, S => msL rd M model set n (k + 1) (if f6_isIn set (nI k) = 0 then S else ms4 (rd k).toInt64 (f2_second M model k).toInt64 (f2_third M model k).toInt64 S)
def f1_sums (rd : Nat → Int32) (M : Nat → Nat → Int32) (model set : Int32) (N : Nat) (S : Nat → Int64) : Nat → Int64 := msL rd M model set N 0 (ms0 S)
def f1_fac (T s f : Nat → Int64) : Nat → Int64 := vp_updL (vp_updL (vp_updL f 0 (T 6 * s 0 + T 7 * s 1 + T 8 * s 2)) 1 (T 7 * s 0 + T 9 * s 1 + T 10 * s 2)) 2 (T 8 * s 0 + T 10 * s 1 + T 11 * s 2)

set_option maxHeartbeats 4000000 in
set_option maxRecDepth 100000 in
theorem kX1_makeSums_0 (l : Launch) (D : va_G) (C : Nat → ClassId) (af : Nat → Nat) (F : Nat → Nat → Int64) (fm : Int32) (am : Nat → Nat) (M : Nat → Nat → Int32) (set : Int32) (sz : Nat) (N : Nat) (hN : M 6 0 = nI N) (hN12 : N ≤ 12) : Wv l D C yX1_makeSums cX1_makeSums 8 1 [.ref (af 0), .ref (am 0), .int 0, .int set] ((wF af C F fm) ++ (wM am C M)) (((wF af C (uM F 1 (f1_sums (M 4) M fm set N (F 1))) fm) ++ (wM am C M))) sz := by
  refine Met.ofW (cc := cX1_makeSums) (maxL := 8) (ret := none) (by decide) rfl ?_
  intro p e s m args below meth c s₁ B hml hv
  obtain ⟨rfl, hsz, hP, hK, hNw, hD0⟩ := hv
  have hx := B.exec
  have hb := B.bytes
  have hr := B.returns
  have hts := atoms_spec (ws := wm yX1_makeSums cX1_makeSums 8 none) B.pre
  have hown : s.vm.findClass RX1 = some m.cls := findClass_of_methodNamed B.named
  have hlocks := B.notSynchronized
  have hW : ∀ w ∈ WA, w.before _ s = true := fun w h => hts w (List.mem_cons_of_mem _ h)
  subst hsz
  have hD := hD0.self (sz := s.heap.size)
  generalize hAe : va_A ((wF af C F fm) ++ (wM am C M)) s.heap.size = A at hD ⊢
  have hA : ∀ q : Nat, s.heap.size ≤ q → A q := fun q h => by rw [← hAe]; exact Or.inr h
  have hS : va_S A s.heap s.heap [] := va_S.rf
  have hP : va_P D vwCl [((af 0), .inr (1, [.ref (af 1), .ref (af 2), .ref (af 5), .int fm])), ((af 1), .inr (5, [.long (F 0 0), .long (F 0 1), .long (F 0 2), .long (F 0 3), .long (F 0 4), .long (F 0 5), .long (F 0 6), .long (F 0 7), .long (F 0 8), .long (F 0 9), .long (F 0 10), .long (F 0 11), .long (F 0 12)])), ((af 2), eJJ C 2 (rr af 3 2)), ((af 3), eJ C 4 (F 1)), ((af 4), eJ C 4 (F 2)), ((af 5), eJJ C 2 (rr af 6 2)), ((af 6), eJ C 3 (F 3)), ((af 7), eJ C 3 (F 4)), ((am 0), .inr (2, [.ref (am 1), .ref (am 2), .ref (am 3), .ref (am 4), .ref (am 5), .int (M 6 0), .int (M 6 1), .int (M 6 2)])), ((am 1), eI C 12 (M 0)), ((am 2), eI C 12 (M 1)), ((am 3), eI C 12 (M 2)), ((am 4), eI C 12 (M 3)), ((am 5), eII C 2 (rr am 6 2)), ((am 6), eI C 12 (M 4)), ((am 7), eI C 12 (M 5))] s.heap := hP
  have hD : va_D A [((af 0), .inr (1, [.ref (af 1), .ref (af 2), .ref (af 5), .int fm])), ((af 1), .inr (5, [.long (F 0 0), .long (F 0 1), .long (F 0 2), .long (F 0 3), .long (F 0 4), .long (F 0 5), .long (F 0 6), .long (F 0 7), .long (F 0 8), .long (F 0 9), .long (F 0 10), .long (F 0 11), .long (F 0 12)])), ((af 2), eJJ C 2 (rr af 3 2)), ((af 3), eJ C 4 (F 1)), ((af 4), eJ C 4 (F 2)), ((af 5), eJJ C 2 (rr af 6 2)), ((af 6), eJ C 3 (F 3)), ((af 7), eJ C 3 (F 4)), ((am 0), .inr (2, [.ref (am 1), .ref (am 2), .ref (am 3), .ref (am 4), .ref (am 5), .int (M 6 0), .int (M 6 1), .int (M 6 2)])), ((am 1), eI C 12 (M 0)), ((am 2), eI C 12 (M 1)), ((am 3), eI C 12 (M 2)), ((am 4), eI C 12 (M 3)), ((am 5), eII C 2 (rr am 6 2)), ((am 6), eI C 12 (M 4)), ((am 7), eI C 12 (M 5))] := hD
  have hl := lv_entry ([.ref (af 0), .ref (am 0), .int 0, .int set]) (n := 8) (Nat.le_of_ble_eq_true rfl)
  rw [lg_entry_eq]
  generalize (lg_sl ([.ref (af 0), .ref (am 0), .int 0, .int set]) ++ List.replicate (8 - (lg_sl ([.ref (af 0), .ref (am 0), .int 0, .int set])).length) Slot.unset).toArray = ls at hl ⊢
  have hl : lv_has ls 8 [(0, .ref (af 0)), (1, .ref (am 0)), (2, .int 0), (3, .int set)] := hl
  refine lv_aload_n hx hb dX1_makeSums_0 rfl (lv_at hl 0 rfl) ?_
  refine va_get (D := D) (ci := 1) (C := RX1) (T := TX1) (N := 4) hx hb hW inX1 hown hK hP 0 rfl rfl 1 (by decide) (hW _ (wa tw130 rfl)) (fun _ h9 => h9) rfl dX1_makeSums_1 ?_
  refine lv_iload_n hx hb dX1_makeSums_4 rfl (lv_at hl 2 rfl) ?_
  refine xaaldJ hx hb hK hP 2 rfl 0 (nI_lit 0) (by decide) (by decide) (b := (af 3)) rfl dX1_makeSums_5 ?_
  refine lv_astore (lv' := [(4, .ref (af 3)), (0, .ref (af 0)), (1, .ref (am 0)), (2, .int 0), (3, .int set)]) hx hb dX1_makeSums_6 hl (by decide) rfl (fun ls hl => ?_)
  refine lv_aload hx hb dX1_makeSums_8 (lv_at hl 0 rfl) ?_
  refine lv_iconst (v := 0) hx hb dX1_makeSums_10 (by decide) ?_
  refine lv_lconst (v := 0) hx hb dX1_makeSums_11 (by decide) ?_
  refine xlast hx hb hK hP hD hS 3 rfl 0 (nI_lit 0) (by decide) (by decide) dX1_makeSums_12 (fun H locs hP hD hS => ?_)
  have hP : va_P D vwCl [((af 0), .inr (1, [.ref (af 1), .ref (af 2), .ref (af 5), .int fm])), ((af 1), .inr (5, [.long (F 0 0), .long (F 0 1), .long (F 0 2), .long (F 0 3), .long (F 0 4), .long (F 0 5), .long (F 0 6), .long (F 0 7), .long (F 0 8), .long (F 0 9), .long (F 0 10), .long (F 0 11), .long (F 0 12)])), ((af 2), eJJ C 2 (rr af 3 2)), ((af 3), eJ C 4 (vp_updL (F 1) 0 0)), ((af 4), eJ C 4 (F 2)), ((af 5), eJJ C 2 (rr af 6 2)), ((af 6), eJ C 3 (F 3)), ((af 7), eJ C 3 (F 4)), ((am 0), .inr (2, [.ref (am 1), .ref (am 2), .ref (am 3), .ref (am 4), .ref (am 5), .int (M 6 0), .int (M 6 1), .int (M 6 2)])), ((am 1), eI C 12 (M 0)), ((am 2), eI C 12 (M 1)), ((am 3), eI C 12 (M 2)), ((am 4), eI C 12 (M 3)), ((am 5), eII C 2 (rr am 6 2)), ((am 6), eI C 12 (M 4)), ((am 7), eI C 12 (M 5))] H := hP
  have hD : va_D A [((af 0), .inr (1, [.ref (af 1), .ref (af 2), .ref (af 5), .int fm])), ((af 1), .inr (5, [.long (F 0 0), .long (F 0 1), .long (F 0 2), .long (F 0 3), .long (F 0 4), .long (F 0 5), .long (F 0 6), .long (F 0 7), .long (F 0 8), .long (F 0 9), .long (F 0 10), .long (F 0 11), .long (F 0 12)])), ((af 2), eJJ C 2 (rr af 3 2)), ((af 3), eJ C 4 (vp_updL (F 1) 0 0)), ((af 4), eJ C 4 (F 2)), ((af 5), eJJ C 2 (rr af 6 2)), ((af 6), eJ C 3 (F 3)), ((af 7), eJ C 3 (F 4)), ((am 0), .inr (2, [.ref (am 1), .ref (am 2), .ref (am 3), .ref (am 4), .ref (am 5), .int (M 6 0), .int (M 6 1), .int (M 6 2)])), ((am 1), eI C 12 (M 0)), ((am 2), eI C 12 (M 1)), ((am 3), eI C 12 (M 2)), ((am 4), eI C 12 (M 3)), ((am 5), eII C 2 (rr am 6 2)), ((am 6), eI C 12 (M 4)), ((am 7), eI C 12 (M 5))] := hD
  refine lv_aload hx hb dX1_makeSums_13 (lv_at hl 0 rfl) ?_
  refine lv_iconst (v := 1) hx hb dX1_makeSums_15 (by decide) ?_
  refine lv_lconst (v := 0) hx hb dX1_makeSums_16 (by decide) ?_
  refine xlast hx hb hK hP hD hS 3 rfl 1 (nI_lit 1) (by decide) (by decide) dX1_makeSums_17 (fun H locs hP hD hS => ?_)
  have hP : va_P D vwCl [((af 0), .inr (1, [.ref (af 1), .ref (af 2), .ref (af 5), .int fm])), ((af 1), .inr (5, [.long (F 0 0), .long (F 0 1), .long (F 0 2), .long (F 0 3), .long (F 0 4), .long (F 0 5), .long (F 0 6), .long (F 0 7), .long (F 0 8), .long (F 0 9), .long (F 0 10), .long (F 0 11), .long (F 0 12)])), ((af 2), eJJ C 2 (rr af 3 2)), ((af 3), eJ C 4 (vp_updL (vp_updL (F 1) 0 0) 1 0)), ((af 4), eJ C 4 (F 2)), ((af 5), eJJ C 2 (rr af 6 2)), ((af 6), eJ C 3 (F 3)), ((af 7), eJ C 3 (F 4)), ((am 0), .inr (2, [.ref (am 1), .ref (am 2), .ref (am 3), .ref (am 4), .ref (am 5), .int (M 6 0), .int (M 6 1), .int (M 6 2)])), ((am 1), eI C 12 (M 0)), ((am 2), eI C 12 (M 1)), ((am 3), eI C 12 (M 2)), ((am 4), eI C 12 (M 3)), ((am 5), eII C 2 (rr am 6 2)), ((am 6), eI C 12 (M 4)), ((am 7), eI C 12 (M 5))] H := hP
  have hD : va_D A [((af 0), .inr (1, [.ref (af 1), .ref (af 2), .ref (af 5), .int fm])), ((af 1), .inr (5, [.long (F 0 0), .long (F 0 1), .long (F 0 2), .long (F 0 3), .long (F 0 4), .long (F 0 5), .long (F 0 6), .long (F 0 7), .long (F 0 8), .long (F 0 9), .long (F 0 10), .long (F 0 11), .long (F 0 12)])), ((af 2), eJJ C 2 (rr af 3 2)), ((af 3), eJ C 4 (vp_updL (vp_updL (F 1) 0 0) 1 0)), ((af 4), eJ C 4 (F 2)), ((af 5), eJJ C 2 (rr af 6 2)), ((af 6), eJ C 3 (F 3)), ((af 7), eJ C 3 (F 4)), ((am 0), .inr (2, [.ref (am 1), .ref (am 2), .ref (am 3), .ref (am 4), .ref (am 5), .int (M 6 0), .int (M 6 1), .int (M 6 2)])), ((am 1), eI C 12 (M 0)), ((am 2), eI C 12 (M 1)), ((am 3), eI C 12 (M 2)), ((am 4), eI C 12 (M 3)), ((am 5), eII C 2 (rr am 6 2)), ((am 6), eI C 12 (M 4)), ((am 7), eI C 12 (M 5))] := hD
  refine lv_aload hx hb dX1_makeSums_18 (lv_at hl 0 rfl) ?_
  refine lv_iconst (v := 2) hx hb dX1_makeSums_20 (by decide) ?_
  refine lv_lconst (v := 0) hx hb dX1_makeSums_21 (by decide) ?_
  refine xlast hx hb hK hP hD hS 3 rfl 2 (nI_lit 2) (by decide) (by decide) dX1_makeSums_22 (fun H locs hP hD hS => ?_)
  have hP : va_P D vwCl [((af 0), .inr (1, [.ref (af 1), .ref (af 2), .ref (af 5), .int fm])), ((af 1), .inr (5, [.long (F 0 0), .long (F 0 1), .long (F 0 2), .long (F 0 3), .long (F 0 4), .long (F 0 5), .long (F 0 6), .long (F 0 7), .long (F 0 8), .long (F 0 9), .long (F 0 10), .long (F 0 11), .long (F 0 12)])), ((af 2), eJJ C 2 (rr af 3 2)), ((af 3), eJ C 4 (vp_updL (vp_updL (vp_updL (F 1) 0 0) 1 0) 2 0)), ((af 4), eJ C 4 (F 2)), ((af 5), eJJ C 2 (rr af 6 2)), ((af 6), eJ C 3 (F 3)), ((af 7), eJ C 3 (F 4)), ((am 0), .inr (2, [.ref (am 1), .ref (am 2), .ref (am 3), .ref (am 4), .ref (am 5), .int (M 6 0), .int (M 6 1), .int (M 6 2)])), ((am 1), eI C 12 (M 0)), ((am 2), eI C 12 (M 1)), ((am 3), eI C 12 (M 2)), ((am 4), eI C 12 (M 3)), ((am 5), eII C 2 (rr am 6 2)), ((am 6), eI C 12 (M 4)), ((am 7), eI C 12 (M 5))] H := hP
  have hD : va_D A [((af 0), .inr (1, [.ref (af 1), .ref (af 2), .ref (af 5), .int fm])), ((af 1), .inr (5, [.long (F 0 0), .long (F 0 1), .long (F 0 2), .long (F 0 3), .long (F 0 4), .long (F 0 5), .long (F 0 6), .long (F 0 7), .long (F 0 8), .long (F 0 9), .long (F 0 10), .long (F 0 11), .long (F 0 12)])), ((af 2), eJJ C 2 (rr af 3 2)), ((af 3), eJ C 4 (vp_updL (vp_updL (vp_updL (F 1) 0 0) 1 0) 2 0)), ((af 4), eJ C 4 (F 2)), ((af 5), eJJ C 2 (rr af 6 2)), ((af 6), eJ C 3 (F 3)), ((af 7), eJ C 3 (F 4)), ((am 0), .inr (2, [.ref (am 1), .ref (am 2), .ref (am 3), .ref (am 4), .ref (am 5), .int (M 6 0), .int (M 6 1), .int (M 6 2)])), ((am 1), eI C 12 (M 0)), ((am 2), eI C 12 (M 1)), ((am 3), eI C 12 (M 2)), ((am 4), eI C 12 (M 3)), ((am 5), eII C 2 (rr am 6 2)), ((am 6), eI C 12 (M 4)), ((am 7), eI C 12 (M 5))] := hD
  refine lv_aload hx hb dX1_makeSums_23 (lv_at hl 0 rfl) ?_
  refine lv_iconst (v := 3) hx hb dX1_makeSums_25 (by decide) ?_
  refine lv_lconst (v := 0) hx hb dX1_makeSums_26 (by decide) ?_
  refine xlast hx hb hK hP hD hS 3 rfl 3 (nI_lit 3) (by decide) (by decide) dX1_makeSums_27 (fun H locs hP hD hS => ?_)
  have hP : va_P D vwCl [((af 0), .inr (1, [.ref (af 1), .ref (af 2), .ref (af 5), .int fm])), ((af 1), .inr (5, [.long (F 0 0), .long (F 0 1), .long (F 0 2), .long (F 0 3), .long (F 0 4), .long (F 0 5), .long (F 0 6), .long (F 0 7), .long (F 0 8), .long (F 0 9), .long (F 0 10), .long (F 0 11), .long (F 0 12)])), ((af 2), eJJ C 2 (rr af 3 2)), ((af 3), eJ C 4 (vp_updL (vp_updL (vp_updL (vp_updL (F 1) 0 0) 1 0) 2 0) 3 0)), ((af 4), eJ C 4 (F 2)), ((af 5), eJJ C 2 (rr af 6 2)), ((af 6), eJ C 3 (F 3)), ((af 7), eJ C 3 (F 4)), ((am 0), .inr (2, [.ref (am 1), .ref (am 2), .ref (am 3), .ref (am 4), .ref (am 5), .int (M 6 0), .int (M 6 1), .int (M 6 2)])), ((am 1), eI C 12 (M 0)), ((am 2), eI C 12 (M 1)), ((am 3), eI C 12 (M 2)), ((am 4), eI C 12 (M 3)), ((am 5), eII C 2 (rr am 6 2)), ((am 6), eI C 12 (M 4)), ((am 7), eI C 12 (M 5))] H := hP
  have hD : va_D A [((af 0), .inr (1, [.ref (af 1), .ref (af 2), .ref (af 5), .int fm])), ((af 1), .inr (5, [.long (F 0 0), .long (F 0 1), .long (F 0 2), .long (F 0 3), .long (F 0 4), .long (F 0 5), .long (F 0 6), .long (F 0 7), .long (F 0 8), .long (F 0 9), .long (F 0 10), .long (F 0 11), .long (F 0 12)])), ((af 2), eJJ C 2 (rr af 3 2)), ((af 3), eJ C 4 (vp_updL (vp_updL (vp_updL (vp_updL (F 1) 0 0) 1 0) 2 0) 3 0)), ((af 4), eJ C 4 (F 2)), ((af 5), eJJ C 2 (rr af 6 2)), ((af 6), eJ C 3 (F 3)), ((af 7), eJ C 3 (F 4)), ((am 0), .inr (2, [.ref (am 1), .ref (am 2), .ref (am 3), .ref (am 4), .ref (am 5), .int (M 6 0), .int (M 6 1), .int (M 6 2)])), ((am 1), eI C 12 (M 0)), ((am 2), eI C 12 (M 1)), ((am 3), eI C 12 (M 2)), ((am 4), eI C 12 (M 3)), ((am 5), eII C 2 (rr am 6 2)), ((am 6), eI C 12 (M 4)), ((am 7), eI C 12 (M 5))] := hD
  refine lv_iconst (v := 0) hx hb dX1_makeSums_28 (by decide) ?_
  refine lv_istore (lv' := [(5, .int 0), (4, .ref (af 3)), (0, .ref (af 0)), (1, .ref (am 0)), (2, .int 0), (3, .int set)]) hx hb dX1_makeSums_29 hl (by decide) rfl (fun ls hl => ?_)
  refine xgen hP hS (fun H locs hP hS => ?_)
  obtain ⟨n31, k, S1, hinv⟩ : ∃ (n31 : Nat) (k : Nat) (S1 : Nat → Int64), (k + n31 = N) ∧ (msL (M 4) M fm set n31 k S1 = f1_sums (M 4) M fm set N (F 1)) ∧ lv_has ls 8 [(0, .ref (af 0)), (1, .ref (am 0)), (2, .int 0), (3, .int set), (4, .ref (af 3)), (5, .int (nI k))] ∧ va_P D vwCl [((af 0), .inr (1, [.ref (af 1), .ref (af 2), .ref (af 5), .int fm])), ((af 1), .inr (5, [.long (F 0 0), .long (F 0 1), .long (F 0 2), .long (F 0 3), .long (F 0 4), .long (F 0 5), .long (F 0 6), .long (F 0 7), .long (F 0 8), .long (F 0 9), .long (F 0 10), .long (F 0 11), .long (F 0 12)])), ((af 2), eJJ C 2 (rr af 3 2)), ((af 3), eJ C 4 S1), ((af 4), eJ C 4 (F 2)), ((af 5), eJJ C 2 (rr af 6 2)), ((af 6), eJ C 3 (F 3)), ((af 7), eJ C 3 (F 4)), ((am 0), .inr (2, [.ref (am 1), .ref (am 2), .ref (am 3), .ref (am 4), .ref (am 5), .int (M 6 0), .int (M 6 1), .int (M 6 2)])), ((am 1), eI C 12 (M 0)), ((am 2), eI C 12 (M 1)), ((am 3), eI C 12 (M 2)), ((am 4), eI C 12 (M 3)), ((am 5), eII C 2 (rr am 6 2)), ((am 6), eI C 12 (M 4)), ((am 7), eI C 12 (M 5))] H ∧ va_D A [((af 0), .inr (1, [.ref (af 1), .ref (af 2), .ref (af 5), .int fm])), ((af 1), .inr (5, [.long (F 0 0), .long (F 0 1), .long (F 0 2), .long (F 0 3), .long (F 0 4), .long (F 0 5), .long (F 0 6), .long (F 0 7), .long (F 0 8), .long (F 0 9), .long (F 0 10), .long (F 0 11), .long (F 0 12)])), ((af 2), eJJ C 2 (rr af 3 2)), ((af 3), eJ C 4 S1), ((af 4), eJ C 4 (F 2)), ((af 5), eJJ C 2 (rr af 6 2)), ((af 6), eJ C 3 (F 3)), ((af 7), eJ C 3 (F 4)), ((am 0), .inr (2, [.ref (am 1), .ref (am 2), .ref (am 3), .ref (am 4), .ref (am 5), .int (M 6 0), .int (M 6 1), .int (M 6 2)])), ((am 1), eI C 12 (M 0)), ((am 2), eI C 12 (M 1)), ((am 3), eI C 12 (M 2)), ((am 4), eI C 12 (M 3)), ((am 5), eII C 2 (rr am 6 2)), ((am 6), eI C 12 (M 4)), ((am 7), eI C 12 (M 5))] ∧ va_S A s.heap H locs := ⟨N, 0, (vp_updL (vp_updL (vp_updL (vp_updL (F 1) 0 0) 1 0) 2 0) 3 0), by omega, rfl, lv_sub hl [2, 3, 4, 5, 1, 0] rfl, hP, hD, hS⟩
  clear hl hP hD hS
  induction n31 generalizing k S1 ls H locs with
  | zero =>
    obtain ⟨h31_0, h31_1, hl, hP, hD, hS⟩ := hinv
    refine lv_iload hx hb dX1_makeSums_31 (lv_at hl 5 rfl) ?_
    refine lv_aload_n hx hb dX1_makeSums_33 rfl (lv_at hl 1 rfl) ?_
    refine va_getN (D := D) (host := "FieldAfterField") (ci := 2) (C := RX2) (T := TX2) (N := 8) hx hb hW inX2 hown hK hP 8 rfl rfl 5 (by decide) (va_Nw.use rfl (hNw _ tw40 rfl)) (fun _ h9 => h9) rfl dX1_makeSums_34 ?_
    refine lv_icmp_ge (tgt := 130) hx hb dX1_makeSums_37 (by decide) (fun c_1 => ?_) (fun c_1 => ?_)
    · have e_S1 : S1 = f1_sums (M 4) M fm set N (F 1) := h31_1
      subst e_S1
      have hP9 : va_P D vwCl (((wF af C (uM F 1 (f1_sums (M 4) M fm set N (F 1))) fm) ++ (wM am C M))) H := hP
      have hD9 : va_D A (((wF af C (uM F 1 (f1_sums (M 4) M fm set N (F 1))) fm) ++ (wM am C M))) := hD
      exact W.vret hx hb hr (fun t ht _ => ⟨⟨(), rfl, trivial, ⟨by rw [ht]; exact hP9, by rw [hAe]; exact hD9⟩⟩, hS.F ht⟩) hS.2.2 dX1_makeSums_130
    · exact absurd (q_le hN rfl (by omega) (by omega)) c_1
  | succ n31 ih31 =>
    obtain ⟨h31_0, h31_1, hl, hP, hD, hS⟩ := hinv
    refine lv_iload hx hb dX1_makeSums_31 (lv_at hl 5 rfl) ?_
    refine lv_aload_n hx hb dX1_makeSums_33 rfl (lv_at hl 1 rfl) ?_
    refine va_getN (D := D) (host := "FieldAfterField") (ci := 2) (C := RX2) (T := TX2) (N := 8) hx hb hW inX2 hown hK hP 8 rfl rfl 5 (by decide) (va_Nw.use rfl (hNw _ tw40 rfl)) (fun _ h9 => h9) rfl dX1_makeSums_34 ?_
    refine lv_icmp_ge (tgt := 130) hx hb dX1_makeSums_37 (by decide) (fun c_2 => ?_) (fun c_2 => ?_)
    · exact absurd c_2 (q_nle hN rfl (by omega) (by omega))
    · refine lv_iload_n hx hb dX1_makeSums_40 rfl (lv_at hl 3 rfl) ?_
      refine lv_iload hx hb dX1_makeSums_41 (lv_at hl 5 rfl) ?_
      refine xri (r := f6_isIn set (nI k)) (rSN (As := [.int set, .int (nI k)]) (n := 2) (rest := []) ⟨hx, hb, hml, hown, hW⟩ (kX6_isIn l set (nI k)) (wa tw285 rfl) (hNw _ tw339 rfl) (wa tw284 rfl) (wa tw1 rfl) (by decide +kernel) ⟨Nat.le_of_ble_eq_true rfl, Nat.le_of_ble_eq_true rfl⟩ pS0 hl.1 rfl (Nat.le_of_ble_eq_true rfl) dX1_makeSums_43 ⟨Nat.le_of_ble_eq_true rfl, Nat.le_of_ble_eq_true rfl⟩ rfl rfl rfl) ?_
      refine lv_if_eq (tgt := 124) hx hb dX1_makeSums_46 (by decide) (fun c_3 => ?_) (fun c_3 => ?_)
      · refine lv_iinc (v := nI k + 1) (lv' := [(5, .int (nI k + 1)), (0, .ref (af 0)), (1, .ref (am 0)), (2, .int 0), (3, .int set), (4, .ref (af 3))]) hx hb dX1_makeSums_124 hl (k := 5) rfl rfl (by decide) rfl (fun ls hl => ?_)
        refine lv_goto (tgt := 31) hx hb dX1_makeSums_127 (by decide) ?_
        rw [nI_1] at hl
        exact ih31 (k := k + 1) (S1 := S1) (ls := ls) (H := H) (locs := locs) ⟨by omega, by rw [← h31_1, msL, if_pos c_3]; try rfl, lv_sub hl [1, 2, 3, 4, 5, 0] rfl, hP, hD, hS⟩
      · refine lv_aload_n hx hb dX1_makeSums_49 rfl (lv_at hl 1 rfl) ?_
        refine va_getN (D := D) (host := "FieldAfterField") (ci := 2) (C := RX2) (T := TX2) (N := 8) hx hb hW inX2 hown hK hP 8 rfl rfl 4 (by decide) (va_Nw.use rfl (hNw _ tw37 rfl)) (fun _ h9 => h9) rfl dX1_makeSums_50 ?_
        refine lv_iload_n hx hb dX1_makeSums_53 rfl (lv_at hl 2 rfl) ?_
        refine xaaldI hx hb hK hP 13 rfl 0 (nI_lit 0) (by decide) (by decide) (b := (am 6)) rfl dX1_makeSums_54 ?_
        refine lv_iload hx hb dX1_makeSums_55 (lv_at hl 5 rfl) ?_
        refine xiald hx hb hK hP 14 rfl k rfl (by omega) (by decide) dX1_makeSums_57 ?_
        refine lv_i2l (v := ((M 4) k).toInt64) hx hb dX1_makeSums_58 rfl ?_
        refine lv_lstore (lv' := [(6, .long (((M 4) k).toInt64)), (0, .ref (af 0)), (1, .ref (am 0)), (2, .int 0), (3, .int set), (4, .ref (af 3)), (5, .int (nI k))]) hx hb dX1_makeSums_59 hl (by decide) rfl (fun ls hl => ?_)
        refine lv_aload hx hb dX1_makeSums_61 (lv_at hl 5 rfl) ?_
        refine lv_iconst (v := 0) hx hb dX1_makeSums_63 (by decide) ?_
        refine lv_dup2_11 hx hb dX1_makeSums_64 rfl rfl ?_
        refine xlald hx hb hK hP 3 rfl 0 (nI_lit 0) (by decide) (by decide) dX1_makeSums_65 ?_
        refine lv_lload hx hb dX1_makeSums_66 (lv_at hl 0 rfl) ?_
        refine lv_ladd hx hb dX1_makeSums_68 ?_
        refine xlast hx hb hK hP hD hS 3 rfl 0 (nI_lit 0) (by decide) (by decide) dX1_makeSums_69 (fun H locs hP hD hS => ?_)
        have hP : va_P D vwCl [((af 0), .inr (1, [.ref (af 1), .ref (af 2), .ref (af 5), .int fm])), ((af 1), .inr (5, [.long (F 0 0), .long (F 0 1), .long (F 0 2), .long (F 0 3), .long (F 0 4), .long (F 0 5), .long (F 0 6), .long (F 0 7), .long (F 0 8), .long (F 0 9), .long (F 0 10), .long (F 0 11), .long (F 0 12)])), ((af 2), eJJ C 2 (rr af 3 2)), ((af 3), eJ C 4 (vp_updL S1 0 ((S1 0) + (((M 4) k).toInt64)))), ((af 4), eJ C 4 (F 2)), ((af 5), eJJ C 2 (rr af 6 2)), ((af 6), eJ C 3 (F 3)), ((af 7), eJ C 3 (F 4)), ((am 0), .inr (2, [.ref (am 1), .ref (am 2), .ref (am 3), .ref (am 4), .ref (am 5), .int (M 6 0), .int (M 6 1), .int (M 6 2)])), ((am 1), eI C 12 (M 0)), ((am 2), eI C 12 (M 1)), ((am 3), eI C 12 (M 2)), ((am 4), eI C 12 (M 3)), ((am 5), eII C 2 (rr am 6 2)), ((am 6), eI C 12 (M 4)), ((am 7), eI C 12 (M 5))] H := hP
        have hD : va_D A [((af 0), .inr (1, [.ref (af 1), .ref (af 2), .ref (af 5), .int fm])), ((af 1), .inr (5, [.long (F 0 0), .long (F 0 1), .long (F 0 2), .long (F 0 3), .long (F 0 4), .long (F 0 5), .long (F 0 6), .long (F 0 7), .long (F 0 8), .long (F 0 9), .long (F 0 10), .long (F 0 11), .long (F 0 12)])), ((af 2), eJJ C 2 (rr af 3 2)), ((af 3), eJ C 4 (vp_updL S1 0 ((S1 0) + (((M 4) k).toInt64)))), ((af 4), eJ C 4 (F 2)), ((af 5), eJJ C 2 (rr af 6 2)), ((af 6), eJ C 3 (F 3)), ((af 7), eJ C 3 (F 4)), ((am 0), .inr (2, [.ref (am 1), .ref (am 2), .ref (am 3), .ref (am 4), .ref (am 5), .int (M 6 0), .int (M 6 1), .int (M 6 2)])), ((am 1), eI C 12 (M 0)), ((am 2), eI C 12 (M 1)), ((am 3), eI C 12 (M 2)), ((am 4), eI C 12 (M 3)), ((am 5), eII C 2 (rr am 6 2)), ((am 6), eI C 12 (M 4)), ((am 7), eI C 12 (M 5))] := hD
        refine lv_aload hx hb dX1_makeSums_70 (lv_at hl 5 rfl) ?_
        refine lv_iconst (v := 1) hx hb dX1_makeSums_72 (by decide) ?_
        refine lv_dup2_11 hx hb dX1_makeSums_73 rfl rfl ?_
        refine xlald hx hb hK hP 3 rfl 1 (nI_lit 1) (by decide) (by decide) dX1_makeSums_74 ?_
        refine lv_lload hx hb dX1_makeSums_75 (lv_at hl 0 rfl) ?_
        refine lv_aload_n hx hb dX1_makeSums_77 rfl (lv_at hl 2 rfl) ?_
        refine lv_aload_n hx hb dX1_makeSums_78 rfl (lv_at hl 1 rfl) ?_
        refine va_get (D := D) (ci := 1) (C := RX1) (T := TX1) (N := 4) hx hb hW inX1 hown hK hP 0 rfl rfl 3 (by decide) (hW _ (wa tw133 rfl)) (fun _ h9 => h9) rfl dX1_makeSums_79 ?_
        refine lv_iload hx hb dX1_makeSums_82 (lv_at hl 6 rfl) ?_
        refine xri (r := f2_second M fm k) (rVN (As := [.int fm, .int (nI k)]) (n := 2) (rest := [.long (((M 4) k).toInt64), .long ((vp_updL S1 0 ((S1 0) + (((M 4) k).toInt64))) 1), .int 1, .ref (af 3)]) ⟨hx, hb, hml, hown, hW⟩ (kX2_secondTerm l D C am M fm k (by omega)) (wa tw343 rfl) (hNw _ tw340 rfl) (wa tw342 rfl) (was ts11 rfl) (wa tw2 rfl) (by decide +kernel) ⟨Nat.le_of_ble_eq_true rfl, Nat.le_of_ble_eq_true rfl⟩ (pVr (hP.sub [8, 9, 10, 11, 12, 13, 14, 15] rfl) hK hNw 0 rfl rfl) hl.1 rfl (Nat.le_of_ble_eq_true rfl) dX1_makeSums_84 ⟨Nat.le_of_ble_eq_true rfl, Nat.le_of_ble_eq_true rfl⟩ rfl rfl rfl) ?_
        refine lv_i2l (v := (f2_second M fm k).toInt64) hx hb dX1_makeSums_87 rfl ?_
        refine lv_lmul hx hb dX1_makeSums_88 ?_
        refine lv_ladd hx hb dX1_makeSums_89 ?_
        refine xlast hx hb hK hP hD hS 3 rfl 1 (nI_lit 1) (by decide) (by decide) dX1_makeSums_90 (fun H locs hP hD hS => ?_)
        have hP : va_P D vwCl [((af 0), .inr (1, [.ref (af 1), .ref (af 2), .ref (af 5), .int fm])), ((af 1), .inr (5, [.long (F 0 0), .long (F 0 1), .long (F 0 2), .long (F 0 3), .long (F 0 4), .long (F 0 5), .long (F 0 6), .long (F 0 7), .long (F 0 8), .long (F 0 9), .long (F 0 10), .long (F 0 11), .long (F 0 12)])), ((af 2), eJJ C 2 (rr af 3 2)), ((af 3), eJ C 4 (vp_updL (vp_updL S1 0 ((S1 0) + (((M 4) k).toInt64))) 1 (((vp_updL S1 0 ((S1 0) + (((M 4) k).toInt64))) 1) + ((((M 4) k).toInt64) * ((f2_second M fm k).toInt64))))), ((af 4), eJ C 4 (F 2)), ((af 5), eJJ C 2 (rr af 6 2)), ((af 6), eJ C 3 (F 3)), ((af 7), eJ C 3 (F 4)), ((am 0), .inr (2, [.ref (am 1), .ref (am 2), .ref (am 3), .ref (am 4), .ref (am 5), .int (M 6 0), .int (M 6 1), .int (M 6 2)])), ((am 1), eI C 12 (M 0)), ((am 2), eI C 12 (M 1)), ((am 3), eI C 12 (M 2)), ((am 4), eI C 12 (M 3)), ((am 5), eII C 2 (rr am 6 2)), ((am 6), eI C 12 (M 4)), ((am 7), eI C 12 (M 5))] H := hP
        have hD : va_D A [((af 0), .inr (1, [.ref (af 1), .ref (af 2), .ref (af 5), .int fm])), ((af 1), .inr (5, [.long (F 0 0), .long (F 0 1), .long (F 0 2), .long (F 0 3), .long (F 0 4), .long (F 0 5), .long (F 0 6), .long (F 0 7), .long (F 0 8), .long (F 0 9), .long (F 0 10), .long (F 0 11), .long (F 0 12)])), ((af 2), eJJ C 2 (rr af 3 2)), ((af 3), eJ C 4 (vp_updL (vp_updL S1 0 ((S1 0) + (((M 4) k).toInt64))) 1 (((vp_updL S1 0 ((S1 0) + (((M 4) k).toInt64))) 1) + ((((M 4) k).toInt64) * ((f2_second M fm k).toInt64))))), ((af 4), eJ C 4 (F 2)), ((af 5), eJJ C 2 (rr af 6 2)), ((af 6), eJ C 3 (F 3)), ((af 7), eJ C 3 (F 4)), ((am 0), .inr (2, [.ref (am 1), .ref (am 2), .ref (am 3), .ref (am 4), .ref (am 5), .int (M 6 0), .int (M 6 1), .int (M 6 2)])), ((am 1), eI C 12 (M 0)), ((am 2), eI C 12 (M 1)), ((am 3), eI C 12 (M 2)), ((am 4), eI C 12 (M 3)), ((am 5), eII C 2 (rr am 6 2)), ((am 6), eI C 12 (M 4)), ((am 7), eI C 12 (M 5))] := hD
        refine lv_aload hx hb dX1_makeSums_91 (lv_at hl 5 rfl) ?_
        refine lv_iconst (v := 2) hx hb dX1_makeSums_93 (by decide) ?_
        refine lv_dup2_11 hx hb dX1_makeSums_94 rfl rfl ?_
        refine xlald hx hb hK hP 3 rfl 2 (nI_lit 2) (by decide) (by decide) dX1_makeSums_95 ?_
        refine lv_lload hx hb dX1_makeSums_96 (lv_at hl 0 rfl) ?_
        refine lv_aload_n hx hb dX1_makeSums_98 rfl (lv_at hl 2 rfl) ?_
        refine lv_aload_n hx hb dX1_makeSums_99 rfl (lv_at hl 1 rfl) ?_
        refine va_get (D := D) (ci := 1) (C := RX1) (T := TX1) (N := 4) hx hb hW inX1 hown hK hP 0 rfl rfl 3 (by decide) (hW _ (wa tw133 rfl)) (fun _ h9 => h9) rfl dX1_makeSums_100 ?_
        refine lv_iload hx hb dX1_makeSums_103 (lv_at hl 6 rfl) ?_
        refine xri (r := f2_third M fm k) (rVN (As := [.int fm, .int (nI k)]) (n := 2) (rest := [.long (((M 4) k).toInt64), .long ((vp_updL (vp_updL S1 0 ((S1 0) + (((M 4) k).toInt64))) 1 (((vp_updL S1 0 ((S1 0) + (((M 4) k).toInt64))) 1) + ((((M 4) k).toInt64) * ((f2_second M fm k).toInt64)))) 2), .int 2, .ref (af 3)]) ⟨hx, hb, hml, hown, hW⟩ (kX2_thirdTerm l D C am M fm k (by omega)) (wa tw347 rfl) (hNw _ tw344 rfl) (wa tw346 rfl) (was ts12 rfl) (wa tw2 rfl) (by decide +kernel) ⟨Nat.le_of_ble_eq_true rfl, Nat.le_of_ble_eq_true rfl⟩ (pVr (hP.sub [8, 9, 10, 11, 12, 13, 14, 15] rfl) hK hNw 0 rfl rfl) hl.1 rfl (Nat.le_of_ble_eq_true rfl) dX1_makeSums_105 ⟨Nat.le_of_ble_eq_true rfl, Nat.le_of_ble_eq_true rfl⟩ rfl rfl rfl) ?_
        refine lv_i2l (v := (f2_third M fm k).toInt64) hx hb dX1_makeSums_108 rfl ?_
        refine lv_lmul hx hb dX1_makeSums_109 ?_
        refine lv_ladd hx hb dX1_makeSums_110 ?_
        refine xlast hx hb hK hP hD hS 3 rfl 2 (nI_lit 2) (by decide) (by decide) dX1_makeSums_111 (fun H locs hP hD hS => ?_)
        have hP : va_P D vwCl [((af 0), .inr (1, [.ref (af 1), .ref (af 2), .ref (af 5), .int fm])), ((af 1), .inr (5, [.long (F 0 0), .long (F 0 1), .long (F 0 2), .long (F 0 3), .long (F 0 4), .long (F 0 5), .long (F 0 6), .long (F 0 7), .long (F 0 8), .long (F 0 9), .long (F 0 10), .long (F 0 11), .long (F 0 12)])), ((af 2), eJJ C 2 (rr af 3 2)), ((af 3), eJ C 4 (vp_updL (vp_updL (vp_updL S1 0 ((S1 0) + (((M 4) k).toInt64))) 1 (((vp_updL S1 0 ((S1 0) + (((M 4) k).toInt64))) 1) + ((((M 4) k).toInt64) * ((f2_second M fm k).toInt64)))) 2 (((vp_updL (vp_updL S1 0 ((S1 0) + (((M 4) k).toInt64))) 1 (((vp_updL S1 0 ((S1 0) + (((M 4) k).toInt64))) 1) + ((((M 4) k).toInt64) * ((f2_second M fm k).toInt64)))) 2) + ((((M 4) k).toInt64) * ((f2_third M fm k).toInt64))))), ((af 4), eJ C 4 (F 2)), ((af 5), eJJ C 2 (rr af 6 2)), ((af 6), eJ C 3 (F 3)), ((af 7), eJ C 3 (F 4)), ((am 0), .inr (2, [.ref (am 1), .ref (am 2), .ref (am 3), .ref (am 4), .ref (am 5), .int (M 6 0), .int (M 6 1), .int (M 6 2)])), ((am 1), eI C 12 (M 0)), ((am 2), eI C 12 (M 1)), ((am 3), eI C 12 (M 2)), ((am 4), eI C 12 (M 3)), ((am 5), eII C 2 (rr am 6 2)), ((am 6), eI C 12 (M 4)), ((am 7), eI C 12 (M 5))] H := hP
        have hD : va_D A [((af 0), .inr (1, [.ref (af 1), .ref (af 2), .ref (af 5), .int fm])), ((af 1), .inr (5, [.long (F 0 0), .long (F 0 1), .long (F 0 2), .long (F 0 3), .long (F 0 4), .long (F 0 5), .long (F 0 6), .long (F 0 7), .long (F 0 8), .long (F 0 9), .long (F 0 10), .long (F 0 11), .long (F 0 12)])), ((af 2), eJJ C 2 (rr af 3 2)), ((af 3), eJ C 4 (vp_updL (vp_updL (vp_updL S1 0 ((S1 0) + (((M 4) k).toInt64))) 1 (((vp_updL S1 0 ((S1 0) + (((M 4) k).toInt64))) 1) + ((((M 4) k).toInt64) * ((f2_second M fm k).toInt64)))) 2 (((vp_updL (vp_updL S1 0 ((S1 0) + (((M 4) k).toInt64))) 1 (((vp_updL S1 0 ((S1 0) + (((M 4) k).toInt64))) 1) + ((((M 4) k).toInt64) * ((f2_second M fm k).toInt64)))) 2) + ((((M 4) k).toInt64) * ((f2_third M fm k).toInt64))))), ((af 4), eJ C 4 (F 2)), ((af 5), eJJ C 2 (rr af 6 2)), ((af 6), eJ C 3 (F 3)), ((af 7), eJ C 3 (F 4)), ((am 0), .inr (2, [.ref (am 1), .ref (am 2), .ref (am 3), .ref (am 4), .ref (am 5), .int (M 6 0), .int (M 6 1), .int (M 6 2)])), ((am 1), eI C 12 (M 0)), ((am 2), eI C 12 (M 1)), ((am 3), eI C 12 (M 2)), ((am 4), eI C 12 (M 3)), ((am 5), eII C 2 (rr am 6 2)), ((am 6), eI C 12 (M 4)), ((am 7), eI C 12 (M 5))] := hD
        refine lv_aload hx hb dX1_makeSums_112 (lv_at hl 5 rfl) ?_
        refine lv_iconst (v := 3) hx hb dX1_makeSums_114 (by decide) ?_
        refine lv_dup2_11 hx hb dX1_makeSums_115 rfl rfl ?_
        refine xlald hx hb hK hP 3 rfl 3 (nI_lit 3) (by decide) (by decide) dX1_makeSums_116 ?_
        refine lv_lload hx hb dX1_makeSums_117 (lv_at hl 0 rfl) ?_
        refine lv_lload hx hb dX1_makeSums_119 (lv_at hl 0 rfl) ?_
        refine lv_lmul hx hb dX1_makeSums_121 ?_
        refine lv_ladd hx hb dX1_makeSums_122 ?_
        refine xlast hx hb hK hP hD hS 3 rfl 3 (nI_lit 3) (by decide) (by decide) dX1_makeSums_123 (fun H locs hP hD hS => ?_)
        have hP : va_P D vwCl [((af 0), .inr (1, [.ref (af 1), .ref (af 2), .ref (af 5), .int fm])), ((af 1), .inr (5, [.long (F 0 0), .long (F 0 1), .long (F 0 2), .long (F 0 3), .long (F 0 4), .long (F 0 5), .long (F 0 6), .long (F 0 7), .long (F 0 8), .long (F 0 9), .long (F 0 10), .long (F 0 11), .long (F 0 12)])), ((af 2), eJJ C 2 (rr af 3 2)), ((af 3), eJ C 4 (vp_updL (vp_updL (vp_updL (vp_updL S1 0 ((S1 0) + (((M 4) k).toInt64))) 1 (((vp_updL S1 0 ((S1 0) + (((M 4) k).toInt64))) 1) + ((((M 4) k).toInt64) * ((f2_second M fm k).toInt64)))) 2 (((vp_updL (vp_updL S1 0 ((S1 0) + (((M 4) k).toInt64))) 1 (((vp_updL S1 0 ((S1 0) + (((M 4) k).toInt64))) 1) + ((((M 4) k).toInt64) * ((f2_second M fm k).toInt64)))) 2) + ((((M 4) k).toInt64) * ((f2_third M fm k).toInt64)))) 3 (((vp_updL (vp_updL (vp_updL S1 0 ((S1 0) + (((M 4) k).toInt64))) 1 (((vp_updL S1 0 ((S1 0) + (((M 4) k).toInt64))) 1) + ((((M 4) k).toInt64) * ((f2_second M fm k).toInt64)))) 2 (((vp_updL (vp_updL S1 0 ((S1 0) + (((M 4) k).toInt64))) 1 (((vp_updL S1 0 ((S1 0) + (((M 4) k).toInt64))) 1) + ((((M 4) k).toInt64) * ((f2_second M fm k).toInt64)))) 2) + ((((M 4) k).toInt64) * ((f2_third M fm k).toInt64)))) 3) + ((((M 4) k).toInt64) * (((M 4) k).toInt64))))), ((af 4), eJ C 4 (F 2)), ((af 5), eJJ C 2 (rr af 6 2)), ((af 6), eJ C 3 (F 3)), ((af 7), eJ C 3 (F 4)), ((am 0), .inr (2, [.ref (am 1), .ref (am 2), .ref (am 3), .ref (am 4), .ref (am 5), .int (M 6 0), .int (M 6 1), .int (M 6 2)])), ((am 1), eI C 12 (M 0)), ((am 2), eI C 12 (M 1)), ((am 3), eI C 12 (M 2)), ((am 4), eI C 12 (M 3)), ((am 5), eII C 2 (rr am 6 2)), ((am 6), eI C 12 (M 4)), ((am 7), eI C 12 (M 5))] H := hP
        have hD : va_D A [((af 0), .inr (1, [.ref (af 1), .ref (af 2), .ref (af 5), .int fm])), ((af 1), .inr (5, [.long (F 0 0), .long (F 0 1), .long (F 0 2), .long (F 0 3), .long (F 0 4), .long (F 0 5), .long (F 0 6), .long (F 0 7), .long (F 0 8), .long (F 0 9), .long (F 0 10), .long (F 0 11), .long (F 0 12)])), ((af 2), eJJ C 2 (rr af 3 2)), ((af 3), eJ C 4 (vp_updL (vp_updL (vp_updL (vp_updL S1 0 ((S1 0) + (((M 4) k).toInt64))) 1 (((vp_updL S1 0 ((S1 0) + (((M 4) k).toInt64))) 1) + ((((M 4) k).toInt64) * ((f2_second M fm k).toInt64)))) 2 (((vp_updL (vp_updL S1 0 ((S1 0) + (((M 4) k).toInt64))) 1 (((vp_updL S1 0 ((S1 0) + (((M 4) k).toInt64))) 1) + ((((M 4) k).toInt64) * ((f2_second M fm k).toInt64)))) 2) + ((((M 4) k).toInt64) * ((f2_third M fm k).toInt64)))) 3 (((vp_updL (vp_updL (vp_updL S1 0 ((S1 0) + (((M 4) k).toInt64))) 1 (((vp_updL S1 0 ((S1 0) + (((M 4) k).toInt64))) 1) + ((((M 4) k).toInt64) * ((f2_second M fm k).toInt64)))) 2 (((vp_updL (vp_updL S1 0 ((S1 0) + (((M 4) k).toInt64))) 1 (((vp_updL S1 0 ((S1 0) + (((M 4) k).toInt64))) 1) + ((((M 4) k).toInt64) * ((f2_second M fm k).toInt64)))) 2) + ((((M 4) k).toInt64) * ((f2_third M fm k).toInt64)))) 3) + ((((M 4) k).toInt64) * (((M 4) k).toInt64))))), ((af 4), eJ C 4 (F 2)), ((af 5), eJJ C 2 (rr af 6 2)), ((af 6), eJ C 3 (F 3)), ((af 7), eJ C 3 (F 4)), ((am 0), .inr (2, [.ref (am 1), .ref (am 2), .ref (am 3), .ref (am 4), .ref (am 5), .int (M 6 0), .int (M 6 1), .int (M 6 2)])), ((am 1), eI C 12 (M 0)), ((am 2), eI C 12 (M 1)), ((am 3), eI C 12 (M 2)), ((am 4), eI C 12 (M 3)), ((am 5), eII C 2 (rr am 6 2)), ((am 6), eI C 12 (M 4)), ((am 7), eI C 12 (M 5))] := hD
        refine lv_iinc (v := nI k + 1) (lv' := [(5, .int (nI k + 1)), (6, .long (((M 4) k).toInt64)), (0, .ref (af 0)), (1, .ref (am 0)), (2, .int 0), (3, .int set), (4, .ref (af 3))]) hx hb dX1_makeSums_124 hl (k := 6) rfl rfl (by decide) rfl (fun ls hl => ?_)
        refine lv_goto (tgt := 31) hx hb dX1_makeSums_127 (by decide) ?_
        rw [nI_1] at hl
        exact ih31 (k := k + 1) (S1 := (vp_updL (vp_updL (vp_updL (vp_updL S1 0 ((S1 0) + (((M 4) k).toInt64))) 1 (((vp_updL S1 0 ((S1 0) + (((M 4) k).toInt64))) 1) + ((((M 4) k).toInt64) * ((f2_second M fm k).toInt64)))) 2 (((vp_updL (vp_updL S1 0 ((S1 0) + (((M 4) k).toInt64))) 1 (((vp_updL S1 0 ((S1 0) + (((M 4) k).toInt64))) 1) + ((((M 4) k).toInt64) * ((f2_second M fm k).toInt64)))) 2) + ((((M 4) k).toInt64) * ((f2_third M fm k).toInt64)))) 3 (((vp_updL (vp_updL (vp_updL S1 0 ((S1 0) + (((M 4) k).toInt64))) 1 (((vp_updL S1 0 ((S1 0) + (((M 4) k).toInt64))) 1) + ((((M 4) k).toInt64) * ((f2_second M fm k).toInt64)))) 2 (((vp_updL (vp_updL S1 0 ((S1 0) + (((M 4) k).toInt64))) 1 (((vp_updL S1 0 ((S1 0) + (((M 4) k).toInt64))) 1) + ((((M 4) k).toInt64) * ((f2_second M fm k).toInt64)))) 2) + ((((M 4) k).toInt64) * ((f2_third M fm k).toInt64)))) 3) + ((((M 4) k).toInt64) * (((M 4) k).toInt64))))) (ls := ls) (H := H) (locs := locs) ⟨by omega, by rw [← h31_1, msL, if_neg c_3]; try rfl, lv_sub hl [2, 3, 4, 5, 6, 0] rfl, hP, hD, hS⟩

set_option maxHeartbeats 4000000 in
set_option maxRecDepth 100000 in
theorem kX1_makeFactors_0 (l : Launch) (D : va_G) (C : Nat → ClassId) (af : Nat → Nat) (F : Nat → Nat → Int64) (fm : Int32)  (sz : Nat)  : Wv l D C yX1_makeFactors cX1_makeFactors 4 0 [.ref (af 0), .int 0] (wF af C F fm) ((wF af C (uM F 3 (f1_fac (F 0) (F 1) (F 3))) fm)) sz := by
  refine Met.ofW (cc := cX1_makeFactors) (maxL := 4) (ret := none) (by decide) rfl ?_
  intro p e s m args below meth c s₁ B hml hv
  obtain ⟨rfl, hsz, hP, hK, hNw, hD0⟩ := hv
  have hx := B.exec
  have hb := B.bytes
  have hr := B.returns
  have hts := atoms_spec (ws := wm yX1_makeFactors cX1_makeFactors 4 none) B.pre
  have hown : s.vm.findClass RX1 = some m.cls := findClass_of_methodNamed B.named
  have hlocks := B.notSynchronized
  have hW : ∀ w ∈ WA, w.before _ s = true := fun w h => hts w (List.mem_cons_of_mem _ h)
  subst hsz
  have hD := hD0.self (sz := s.heap.size)
  generalize hAe : va_A (wF af C F fm) s.heap.size = A at hD ⊢
  have hA : ∀ q : Nat, s.heap.size ≤ q → A q := fun q h => by rw [← hAe]; exact Or.inr h
  have hS : va_S A s.heap s.heap [] := va_S.rf
  have hP : va_P D vwCl [((af 0), .inr (1, [.ref (af 1), .ref (af 2), .ref (af 5), .int fm])), ((af 1), .inr (5, [.long (F 0 0), .long (F 0 1), .long (F 0 2), .long (F 0 3), .long (F 0 4), .long (F 0 5), .long (F 0 6), .long (F 0 7), .long (F 0 8), .long (F 0 9), .long (F 0 10), .long (F 0 11), .long (F 0 12)])), ((af 2), eJJ C 2 (rr af 3 2)), ((af 3), eJ C 4 (F 1)), ((af 4), eJ C 4 (F 2)), ((af 5), eJJ C 2 (rr af 6 2)), ((af 6), eJ C 3 (F 3)), ((af 7), eJ C 3 (F 4))] s.heap := hP
  have hD : va_D A [((af 0), .inr (1, [.ref (af 1), .ref (af 2), .ref (af 5), .int fm])), ((af 1), .inr (5, [.long (F 0 0), .long (F 0 1), .long (F 0 2), .long (F 0 3), .long (F 0 4), .long (F 0 5), .long (F 0 6), .long (F 0 7), .long (F 0 8), .long (F 0 9), .long (F 0 10), .long (F 0 11), .long (F 0 12)])), ((af 2), eJJ C 2 (rr af 3 2)), ((af 3), eJ C 4 (F 1)), ((af 4), eJ C 4 (F 2)), ((af 5), eJJ C 2 (rr af 6 2)), ((af 6), eJ C 3 (F 3)), ((af 7), eJ C 3 (F 4))] := hD
  have hl := lv_entry ([.ref (af 0), .int 0]) (n := 4) (Nat.le_of_ble_eq_true rfl)
  rw [lg_entry_eq]
  generalize (lg_sl ([.ref (af 0), .int 0]) ++ List.replicate (4 - (lg_sl ([.ref (af 0), .int 0])).length) Slot.unset).toArray = ls at hl ⊢
  have hl : lv_has ls 4 [(0, .ref (af 0)), (1, .int 0)] := hl
  refine lv_aload_n hx hb dX1_makeFactors_0 rfl (lv_at hl 0 rfl) ?_
  refine va_get (D := D) (ci := 1) (C := RX1) (T := TX1) (N := 4) hx hb hW inX1 hown hK hP 0 rfl rfl 1 (by decide) (hW _ (wa tw130 rfl)) (fun _ h9 => h9) rfl dX1_makeFactors_1 ?_
  refine lv_iload_n hx hb dX1_makeFactors_4 rfl (lv_at hl 1 rfl) ?_
  refine xaaldJ hx hb hK hP 2 rfl 0 (nI_lit 0) (by decide) (by decide) (b := (af 3)) rfl dX1_makeFactors_5 ?_
  refine lv_astore_n (lv' := [(2, .ref (af 3)), (0, .ref (af 0)), (1, .int 0)]) hx hb dX1_makeFactors_6 rfl hl (by decide) rfl (fun ls hl => ?_)
  refine lv_aload_n hx hb dX1_makeFactors_7 rfl (lv_at hl 1 rfl) ?_
  refine va_get (D := D) (ci := 1) (C := RX1) (T := TX1) (N := 4) hx hb hW inX1 hown hK hP 0 rfl rfl 2 (by decide) (hW _ (wa tw131 rfl)) (fun _ h9 => h9) rfl dX1_makeFactors_8 ?_
  refine lv_iload_n hx hb dX1_makeFactors_11 rfl (lv_at hl 2 rfl) ?_
  refine xaaldJ hx hb hK hP 5 rfl 0 (nI_lit 0) (by decide) (by decide) (b := (af 6)) rfl dX1_makeFactors_12 ?_
  refine lv_astore_n (lv' := [(3, .ref (af 6)), (2, .ref (af 3)), (0, .ref (af 0)), (1, .int 0)]) hx hb dX1_makeFactors_13 rfl hl (by decide) rfl (fun ls hl => ?_)
  refine lv_aload_n hx hb dX1_makeFactors_14 rfl (lv_at hl 0 rfl) ?_
  refine lv_iconst (v := 0) hx hb dX1_makeFactors_15 (by decide) ?_
  refine lv_aload_n hx hb dX1_makeFactors_16 rfl (lv_at hl 2 rfl) ?_
  refine va_get (D := D) (ci := 1) (C := RX1) (T := TX1) (N := 4) hx hb hW inX1 hown hK hP 0 rfl rfl 0 (by decide) (hW _ (wa tw128 rfl)) (fun _ h9 => h9) rfl dX1_makeFactors_17 ?_
  refine va_getN (D := D) (host := "FieldAfterField") (ci := 5) (C := RX5) (T := TX5) (N := 13) hx hb hW inX5 hown hK hP 1 rfl rfl 6 (by decide) (va_Nw.use rfl (hNw _ tw84 rfl)) (fun _ h9 => h9) rfl dX1_makeFactors_20 ?_
  refine lv_aload_n hx hb dX1_makeFactors_23 rfl (lv_at hl 1 rfl) ?_
  refine lv_iconst (v := 0) hx hb dX1_makeFactors_24 (by decide) ?_
  refine xlald hx hb hK hP 3 rfl 0 (nI_lit 0) (by decide) (by decide) dX1_makeFactors_25 ?_
  refine lv_lmul hx hb dX1_makeFactors_26 ?_
  refine lv_aload_n hx hb dX1_makeFactors_27 rfl (lv_at hl 2 rfl) ?_
  refine va_get (D := D) (ci := 1) (C := RX1) (T := TX1) (N := 4) hx hb hW inX1 hown hK hP 0 rfl rfl 0 (by decide) (hW _ (wa tw128 rfl)) (fun _ h9 => h9) rfl dX1_makeFactors_28 ?_
  refine va_getN (D := D) (host := "FieldAfterField") (ci := 5) (C := RX5) (T := TX5) (N := 13) hx hb hW inX5 hown hK hP 1 rfl rfl 7 (by decide) (va_Nw.use rfl (hNw _ tw85 rfl)) (fun _ h9 => h9) rfl dX1_makeFactors_31 ?_
  refine lv_aload_n hx hb dX1_makeFactors_34 rfl (lv_at hl 1 rfl) ?_
  refine lv_iconst (v := 1) hx hb dX1_makeFactors_35 (by decide) ?_
  refine xlald hx hb hK hP 3 rfl 1 (nI_lit 1) (by decide) (by decide) dX1_makeFactors_36 ?_
  refine lv_lmul hx hb dX1_makeFactors_37 ?_
  refine lv_ladd hx hb dX1_makeFactors_38 ?_
  refine lv_aload_n hx hb dX1_makeFactors_39 rfl (lv_at hl 2 rfl) ?_
  refine va_get (D := D) (ci := 1) (C := RX1) (T := TX1) (N := 4) hx hb hW inX1 hown hK hP 0 rfl rfl 0 (by decide) (hW _ (wa tw128 rfl)) (fun _ h9 => h9) rfl dX1_makeFactors_40 ?_
  refine va_getN (D := D) (host := "FieldAfterField") (ci := 5) (C := RX5) (T := TX5) (N := 13) hx hb hW inX5 hown hK hP 1 rfl rfl 8 (by decide) (va_Nw.use rfl (hNw _ tw87 rfl)) (fun _ h9 => h9) rfl dX1_makeFactors_43 ?_
  refine lv_aload_n hx hb dX1_makeFactors_46 rfl (lv_at hl 1 rfl) ?_
  refine lv_iconst (v := 2) hx hb dX1_makeFactors_47 (by decide) ?_
  refine xlald hx hb hK hP 3 rfl 2 (nI_lit 2) (by decide) (by decide) dX1_makeFactors_48 ?_
  refine lv_lmul hx hb dX1_makeFactors_49 ?_
  refine lv_ladd hx hb dX1_makeFactors_50 ?_
  refine xlast hx hb hK hP hD hS 6 rfl 0 (nI_lit 0) (by decide) (by decide) dX1_makeFactors_51 (fun H locs hP hD hS => ?_)
  have hP : va_P D vwCl [((af 0), .inr (1, [.ref (af 1), .ref (af 2), .ref (af 5), .int fm])), ((af 1), .inr (5, [.long (F 0 0), .long (F 0 1), .long (F 0 2), .long (F 0 3), .long (F 0 4), .long (F 0 5), .long (F 0 6), .long (F 0 7), .long (F 0 8), .long (F 0 9), .long (F 0 10), .long (F 0 11), .long (F 0 12)])), ((af 2), eJJ C 2 (rr af 3 2)), ((af 3), eJ C 4 (F 1)), ((af 4), eJ C 4 (F 2)), ((af 5), eJJ C 2 (rr af 6 2)), ((af 6), eJ C 3 (vp_updL (F 3) 0 ((((F 0 6) * ((F 1) 0)) + ((F 0 7) * ((F 1) 1))) + ((F 0 8) * ((F 1) 2))))), ((af 7), eJ C 3 (F 4))] H := hP
  have hD : va_D A [((af 0), .inr (1, [.ref (af 1), .ref (af 2), .ref (af 5), .int fm])), ((af 1), .inr (5, [.long (F 0 0), .long (F 0 1), .long (F 0 2), .long (F 0 3), .long (F 0 4), .long (F 0 5), .long (F 0 6), .long (F 0 7), .long (F 0 8), .long (F 0 9), .long (F 0 10), .long (F 0 11), .long (F 0 12)])), ((af 2), eJJ C 2 (rr af 3 2)), ((af 3), eJ C 4 (F 1)), ((af 4), eJ C 4 (F 2)), ((af 5), eJJ C 2 (rr af 6 2)), ((af 6), eJ C 3 (vp_updL (F 3) 0 ((((F 0 6) * ((F 1) 0)) + ((F 0 7) * ((F 1) 1))) + ((F 0 8) * ((F 1) 2))))), ((af 7), eJ C 3 (F 4))] := hD
  refine lv_aload_n hx hb dX1_makeFactors_52 rfl (lv_at hl 0 rfl) ?_
  refine lv_iconst (v := 1) hx hb dX1_makeFactors_53 (by decide) ?_
  refine lv_aload_n hx hb dX1_makeFactors_54 rfl (lv_at hl 2 rfl) ?_
  refine va_get (D := D) (ci := 1) (C := RX1) (T := TX1) (N := 4) hx hb hW inX1 hown hK hP 0 rfl rfl 0 (by decide) (hW _ (wa tw128 rfl)) (fun _ h9 => h9) rfl dX1_makeFactors_55 ?_
  refine va_getN (D := D) (host := "FieldAfterField") (ci := 5) (C := RX5) (T := TX5) (N := 13) hx hb hW inX5 hown hK hP 1 rfl rfl 7 (by decide) (va_Nw.use rfl (hNw _ tw85 rfl)) (fun _ h9 => h9) rfl dX1_makeFactors_58 ?_
  refine lv_aload_n hx hb dX1_makeFactors_61 rfl (lv_at hl 1 rfl) ?_
  refine lv_iconst (v := 0) hx hb dX1_makeFactors_62 (by decide) ?_
  refine xlald hx hb hK hP 3 rfl 0 (nI_lit 0) (by decide) (by decide) dX1_makeFactors_63 ?_
  refine lv_lmul hx hb dX1_makeFactors_64 ?_
  refine lv_aload_n hx hb dX1_makeFactors_65 rfl (lv_at hl 2 rfl) ?_
  refine va_get (D := D) (ci := 1) (C := RX1) (T := TX1) (N := 4) hx hb hW inX1 hown hK hP 0 rfl rfl 0 (by decide) (hW _ (wa tw128 rfl)) (fun _ h9 => h9) rfl dX1_makeFactors_66 ?_
  refine va_getN (D := D) (host := "FieldAfterField") (ci := 5) (C := RX5) (T := TX5) (N := 13) hx hb hW inX5 hown hK hP 1 rfl rfl 9 (by decide) (va_Nw.use rfl (hNw _ tw89 rfl)) (fun _ h9 => h9) rfl dX1_makeFactors_69 ?_
  refine lv_aload_n hx hb dX1_makeFactors_72 rfl (lv_at hl 1 rfl) ?_
  refine lv_iconst (v := 1) hx hb dX1_makeFactors_73 (by decide) ?_
  refine xlald hx hb hK hP 3 rfl 1 (nI_lit 1) (by decide) (by decide) dX1_makeFactors_74 ?_
  refine lv_lmul hx hb dX1_makeFactors_75 ?_
  refine lv_ladd hx hb dX1_makeFactors_76 ?_
  refine lv_aload_n hx hb dX1_makeFactors_77 rfl (lv_at hl 2 rfl) ?_
  refine va_get (D := D) (ci := 1) (C := RX1) (T := TX1) (N := 4) hx hb hW inX1 hown hK hP 0 rfl rfl 0 (by decide) (hW _ (wa tw128 rfl)) (fun _ h9 => h9) rfl dX1_makeFactors_78 ?_
  refine va_getN (D := D) (host := "FieldAfterField") (ci := 5) (C := RX5) (T := TX5) (N := 13) hx hb hW inX5 hown hK hP 1 rfl rfl 10 (by decide) (va_Nw.use rfl (hNw _ tw91 rfl)) (fun _ h9 => h9) rfl dX1_makeFactors_81 ?_
  refine lv_aload_n hx hb dX1_makeFactors_84 rfl (lv_at hl 1 rfl) ?_
  refine lv_iconst (v := 2) hx hb dX1_makeFactors_85 (by decide) ?_
  refine xlald hx hb hK hP 3 rfl 2 (nI_lit 2) (by decide) (by decide) dX1_makeFactors_86 ?_
  refine lv_lmul hx hb dX1_makeFactors_87 ?_
  refine lv_ladd hx hb dX1_makeFactors_88 ?_
  refine xlast hx hb hK hP hD hS 6 rfl 1 (nI_lit 1) (by decide) (by decide) dX1_makeFactors_89 (fun H locs hP hD hS => ?_)
  have hP : va_P D vwCl [((af 0), .inr (1, [.ref (af 1), .ref (af 2), .ref (af 5), .int fm])), ((af 1), .inr (5, [.long (F 0 0), .long (F 0 1), .long (F 0 2), .long (F 0 3), .long (F 0 4), .long (F 0 5), .long (F 0 6), .long (F 0 7), .long (F 0 8), .long (F 0 9), .long (F 0 10), .long (F 0 11), .long (F 0 12)])), ((af 2), eJJ C 2 (rr af 3 2)), ((af 3), eJ C 4 (F 1)), ((af 4), eJ C 4 (F 2)), ((af 5), eJJ C 2 (rr af 6 2)), ((af 6), eJ C 3 (vp_updL (vp_updL (F 3) 0 ((((F 0 6) * ((F 1) 0)) + ((F 0 7) * ((F 1) 1))) + ((F 0 8) * ((F 1) 2)))) 1 ((((F 0 7) * ((F 1) 0)) + ((F 0 9) * ((F 1) 1))) + ((F 0 10) * ((F 1) 2))))), ((af 7), eJ C 3 (F 4))] H := hP
  have hD : va_D A [((af 0), .inr (1, [.ref (af 1), .ref (af 2), .ref (af 5), .int fm])), ((af 1), .inr (5, [.long (F 0 0), .long (F 0 1), .long (F 0 2), .long (F 0 3), .long (F 0 4), .long (F 0 5), .long (F 0 6), .long (F 0 7), .long (F 0 8), .long (F 0 9), .long (F 0 10), .long (F 0 11), .long (F 0 12)])), ((af 2), eJJ C 2 (rr af 3 2)), ((af 3), eJ C 4 (F 1)), ((af 4), eJ C 4 (F 2)), ((af 5), eJJ C 2 (rr af 6 2)), ((af 6), eJ C 3 (vp_updL (vp_updL (F 3) 0 ((((F 0 6) * ((F 1) 0)) + ((F 0 7) * ((F 1) 1))) + ((F 0 8) * ((F 1) 2)))) 1 ((((F 0 7) * ((F 1) 0)) + ((F 0 9) * ((F 1) 1))) + ((F 0 10) * ((F 1) 2))))), ((af 7), eJ C 3 (F 4))] := hD
  refine lv_aload_n hx hb dX1_makeFactors_90 rfl (lv_at hl 0 rfl) ?_
  refine lv_iconst (v := 2) hx hb dX1_makeFactors_91 (by decide) ?_
  refine lv_aload_n hx hb dX1_makeFactors_92 rfl (lv_at hl 2 rfl) ?_
  refine va_get (D := D) (ci := 1) (C := RX1) (T := TX1) (N := 4) hx hb hW inX1 hown hK hP 0 rfl rfl 0 (by decide) (hW _ (wa tw128 rfl)) (fun _ h9 => h9) rfl dX1_makeFactors_93 ?_
  refine va_getN (D := D) (host := "FieldAfterField") (ci := 5) (C := RX5) (T := TX5) (N := 13) hx hb hW inX5 hown hK hP 1 rfl rfl 8 (by decide) (va_Nw.use rfl (hNw _ tw87 rfl)) (fun _ h9 => h9) rfl dX1_makeFactors_96 ?_
  refine lv_aload_n hx hb dX1_makeFactors_99 rfl (lv_at hl 1 rfl) ?_
  refine lv_iconst (v := 0) hx hb dX1_makeFactors_100 (by decide) ?_
  refine xlald hx hb hK hP 3 rfl 0 (nI_lit 0) (by decide) (by decide) dX1_makeFactors_101 ?_
  refine lv_lmul hx hb dX1_makeFactors_102 ?_
  refine lv_aload_n hx hb dX1_makeFactors_103 rfl (lv_at hl 2 rfl) ?_
  refine va_get (D := D) (ci := 1) (C := RX1) (T := TX1) (N := 4) hx hb hW inX1 hown hK hP 0 rfl rfl 0 (by decide) (hW _ (wa tw128 rfl)) (fun _ h9 => h9) rfl dX1_makeFactors_104 ?_
  refine va_getN (D := D) (host := "FieldAfterField") (ci := 5) (C := RX5) (T := TX5) (N := 13) hx hb hW inX5 hown hK hP 1 rfl rfl 10 (by decide) (va_Nw.use rfl (hNw _ tw91 rfl)) (fun _ h9 => h9) rfl dX1_makeFactors_107 ?_
  refine lv_aload_n hx hb dX1_makeFactors_110 rfl (lv_at hl 1 rfl) ?_
  refine lv_iconst (v := 1) hx hb dX1_makeFactors_111 (by decide) ?_
  refine xlald hx hb hK hP 3 rfl 1 (nI_lit 1) (by decide) (by decide) dX1_makeFactors_112 ?_
  refine lv_lmul hx hb dX1_makeFactors_113 ?_
  refine lv_ladd hx hb dX1_makeFactors_114 ?_
  refine lv_aload_n hx hb dX1_makeFactors_115 rfl (lv_at hl 2 rfl) ?_
  refine va_get (D := D) (ci := 1) (C := RX1) (T := TX1) (N := 4) hx hb hW inX1 hown hK hP 0 rfl rfl 0 (by decide) (hW _ (wa tw128 rfl)) (fun _ h9 => h9) rfl dX1_makeFactors_116 ?_
  refine va_getN (D := D) (host := "FieldAfterField") (ci := 5) (C := RX5) (T := TX5) (N := 13) hx hb hW inX5 hown hK hP 1 rfl rfl 11 (by decide) (va_Nw.use rfl (hNw _ tw93 rfl)) (fun _ h9 => h9) rfl dX1_makeFactors_119 ?_
  refine lv_aload_n hx hb dX1_makeFactors_122 rfl (lv_at hl 1 rfl) ?_
  refine lv_iconst (v := 2) hx hb dX1_makeFactors_123 (by decide) ?_
  refine xlald hx hb hK hP 3 rfl 2 (nI_lit 2) (by decide) (by decide) dX1_makeFactors_124 ?_
  refine lv_lmul hx hb dX1_makeFactors_125 ?_
  refine lv_ladd hx hb dX1_makeFactors_126 ?_
  refine xlast hx hb hK hP hD hS 6 rfl 2 (nI_lit 2) (by decide) (by decide) dX1_makeFactors_127 (fun H locs hP hD hS => ?_)
  have hP : va_P D vwCl [((af 0), .inr (1, [.ref (af 1), .ref (af 2), .ref (af 5), .int fm])), ((af 1), .inr (5, [.long (F 0 0), .long (F 0 1), .long (F 0 2), .long (F 0 3), .long (F 0 4), .long (F 0 5), .long (F 0 6), .long (F 0 7), .long (F 0 8), .long (F 0 9), .long (F 0 10), .long (F 0 11), .long (F 0 12)])), ((af 2), eJJ C 2 (rr af 3 2)), ((af 3), eJ C 4 (F 1)), ((af 4), eJ C 4 (F 2)), ((af 5), eJJ C 2 (rr af 6 2)), ((af 6), eJ C 3 (vp_updL (vp_updL (vp_updL (F 3) 0 ((((F 0 6) * ((F 1) 0)) + ((F 0 7) * ((F 1) 1))) + ((F 0 8) * ((F 1) 2)))) 1 ((((F 0 7) * ((F 1) 0)) + ((F 0 9) * ((F 1) 1))) + ((F 0 10) * ((F 1) 2)))) 2 ((((F 0 8) * ((F 1) 0)) + ((F 0 10) * ((F 1) 1))) + ((F 0 11) * ((F 1) 2))))), ((af 7), eJ C 3 (F 4))] H := hP
  have hD : va_D A [((af 0), .inr (1, [.ref (af 1), .ref (af 2), .ref (af 5), .int fm])), ((af 1), .inr (5, [.long (F 0 0), .long (F 0 1), .long (F 0 2), .long (F 0 3), .long (F 0 4), .long (F 0 5), .long (F 0 6), .long (F 0 7), .long (F 0 8), .long (F 0 9), .long (F 0 10), .long (F 0 11), .long (F 0 12)])), ((af 2), eJJ C 2 (rr af 3 2)), ((af 3), eJ C 4 (F 1)), ((af 4), eJ C 4 (F 2)), ((af 5), eJJ C 2 (rr af 6 2)), ((af 6), eJ C 3 (vp_updL (vp_updL (vp_updL (F 3) 0 ((((F 0 6) * ((F 1) 0)) + ((F 0 7) * ((F 1) 1))) + ((F 0 8) * ((F 1) 2)))) 1 ((((F 0 7) * ((F 1) 0)) + ((F 0 9) * ((F 1) 1))) + ((F 0 10) * ((F 1) 2)))) 2 ((((F 0 8) * ((F 1) 0)) + ((F 0 10) * ((F 1) 1))) + ((F 0 11) * ((F 1) 2))))), ((af 7), eJ C 3 (F 4))] := hD
  have hP9 : va_P D vwCl ((wF af C (uM F 3 (f1_fac (F 0) (F 1) (F 3))) fm)) H := hP
  have hD9 : va_D A ((wF af C (uM F 3 (f1_fac (F 0) (F 1) (F 3))) fm)) := hD
  exact W.vret hx hb hr (fun t ht _ => ⟨⟨(), rfl, trivial, ⟨by rw [ht]; exact hP9, by rw [hAe]; exact hD9⟩⟩, hS.F ht⟩) hS.2.2 dX1_makeFactors_128

set_option maxHeartbeats 4000000 in
set_option maxRecDepth 100000 in
theorem kX1_makeSums_1 (l : Launch) (D : va_G) (C : Nat → ClassId) (af : Nat → Nat) (F : Nat → Nat → Int64) (fm : Int32) (am : Nat → Nat) (M : Nat → Nat → Int32) (set : Int32) (sz : Nat) (N : Nat) (hN : M 6 0 = nI N) (hN12 : N ≤ 12) : Wv l D C yX1_makeSums cX1_makeSums 8 1 [.ref (af 0), .ref (am 0), .int 1, .int set] ((wF af C F fm) ++ (wM am C M)) (((wF af C (uM F 2 (f1_sums (M 5) M fm set N (F 2))) fm) ++ (wM am C M))) sz := by
  refine Met.ofW (cc := cX1_makeSums) (maxL := 8) (ret := none) (by decide) rfl ?_
  intro p e s m args below meth c s₁ B hml hv
  obtain ⟨rfl, hsz, hP, hK, hNw, hD0⟩ := hv
  have hx := B.exec
  have hb := B.bytes
  have hr := B.returns
  have hts := atoms_spec (ws := wm yX1_makeSums cX1_makeSums 8 none) B.pre
  have hown : s.vm.findClass RX1 = some m.cls := findClass_of_methodNamed B.named
  have hlocks := B.notSynchronized
  have hW : ∀ w ∈ WA, w.before _ s = true := fun w h => hts w (List.mem_cons_of_mem _ h)
  subst hsz
  have hD := hD0.self (sz := s.heap.size)
  generalize hAe : va_A ((wF af C F fm) ++ (wM am C M)) s.heap.size = A at hD ⊢
  have hA : ∀ q : Nat, s.heap.size ≤ q → A q := fun q h => by rw [← hAe]; exact Or.inr h
  have hS : va_S A s.heap s.heap [] := va_S.rf
  have hP : va_P D vwCl [((af 0), .inr (1, [.ref (af 1), .ref (af 2), .ref (af 5), .int fm])), ((af 1), .inr (5, [.long (F 0 0), .long (F 0 1), .long (F 0 2), .long (F 0 3), .long (F 0 4), .long (F 0 5), .long (F 0 6), .long (F 0 7), .long (F 0 8), .long (F 0 9), .long (F 0 10), .long (F 0 11), .long (F 0 12)])), ((af 2), eJJ C 2 (rr af 3 2)), ((af 3), eJ C 4 (F 1)), ((af 4), eJ C 4 (F 2)), ((af 5), eJJ C 2 (rr af 6 2)), ((af 6), eJ C 3 (F 3)), ((af 7), eJ C 3 (F 4)), ((am 0), .inr (2, [.ref (am 1), .ref (am 2), .ref (am 3), .ref (am 4), .ref (am 5), .int (M 6 0), .int (M 6 1), .int (M 6 2)])), ((am 1), eI C 12 (M 0)), ((am 2), eI C 12 (M 1)), ((am 3), eI C 12 (M 2)), ((am 4), eI C 12 (M 3)), ((am 5), eII C 2 (rr am 6 2)), ((am 6), eI C 12 (M 4)), ((am 7), eI C 12 (M 5))] s.heap := hP
  have hD : va_D A [((af 0), .inr (1, [.ref (af 1), .ref (af 2), .ref (af 5), .int fm])), ((af 1), .inr (5, [.long (F 0 0), .long (F 0 1), .long (F 0 2), .long (F 0 3), .long (F 0 4), .long (F 0 5), .long (F 0 6), .long (F 0 7), .long (F 0 8), .long (F 0 9), .long (F 0 10), .long (F 0 11), .long (F 0 12)])), ((af 2), eJJ C 2 (rr af 3 2)), ((af 3), eJ C 4 (F 1)), ((af 4), eJ C 4 (F 2)), ((af 5), eJJ C 2 (rr af 6 2)), ((af 6), eJ C 3 (F 3)), ((af 7), eJ C 3 (F 4)), ((am 0), .inr (2, [.ref (am 1), .ref (am 2), .ref (am 3), .ref (am 4), .ref (am 5), .int (M 6 0), .int (M 6 1), .int (M 6 2)])), ((am 1), eI C 12 (M 0)), ((am 2), eI C 12 (M 1)), ((am 3), eI C 12 (M 2)), ((am 4), eI C 12 (M 3)), ((am 5), eII C 2 (rr am 6 2)), ((am 6), eI C 12 (M 4)), ((am 7), eI C 12 (M 5))] := hD
  have hl := lv_entry ([.ref (af 0), .ref (am 0), .int 1, .int set]) (n := 8) (Nat.le_of_ble_eq_true rfl)
  rw [lg_entry_eq]
  generalize (lg_sl ([.ref (af 0), .ref (am 0), .int 1, .int set]) ++ List.replicate (8 - (lg_sl ([.ref (af 0), .ref (am 0), .int 1, .int set])).length) Slot.unset).toArray = ls at hl ⊢
  have hl : lv_has ls 8 [(0, .ref (af 0)), (1, .ref (am 0)), (2, .int 1), (3, .int set)] := hl
  refine lv_aload_n hx hb dX1_makeSums_0 rfl (lv_at hl 0 rfl) ?_
  refine va_get (D := D) (ci := 1) (C := RX1) (T := TX1) (N := 4) hx hb hW inX1 hown hK hP 0 rfl rfl 1 (by decide) (hW _ (wa tw130 rfl)) (fun _ h9 => h9) rfl dX1_makeSums_1 ?_
  refine lv_iload_n hx hb dX1_makeSums_4 rfl (lv_at hl 2 rfl) ?_
  refine xaaldJ hx hb hK hP 2 rfl 1 (nI_lit 1) (by decide) (by decide) (b := (af 4)) rfl dX1_makeSums_5 ?_
  refine lv_astore (lv' := [(4, .ref (af 4)), (0, .ref (af 0)), (1, .ref (am 0)), (2, .int 1), (3, .int set)]) hx hb dX1_makeSums_6 hl (by decide) rfl (fun ls hl => ?_)
  refine lv_aload hx hb dX1_makeSums_8 (lv_at hl 0 rfl) ?_
  refine lv_iconst (v := 0) hx hb dX1_makeSums_10 (by decide) ?_
  refine lv_lconst (v := 0) hx hb dX1_makeSums_11 (by decide) ?_
  refine xlast hx hb hK hP hD hS 4 rfl 0 (nI_lit 0) (by decide) (by decide) dX1_makeSums_12 (fun H locs hP hD hS => ?_)
  have hP : va_P D vwCl [((af 0), .inr (1, [.ref (af 1), .ref (af 2), .ref (af 5), .int fm])), ((af 1), .inr (5, [.long (F 0 0), .long (F 0 1), .long (F 0 2), .long (F 0 3), .long (F 0 4), .long (F 0 5), .long (F 0 6), .long (F 0 7), .long (F 0 8), .long (F 0 9), .long (F 0 10), .long (F 0 11), .long (F 0 12)])), ((af 2), eJJ C 2 (rr af 3 2)), ((af 3), eJ C 4 (F 1)), ((af 4), eJ C 4 (vp_updL (F 2) 0 0)), ((af 5), eJJ C 2 (rr af 6 2)), ((af 6), eJ C 3 (F 3)), ((af 7), eJ C 3 (F 4)), ((am 0), .inr (2, [.ref (am 1), .ref (am 2), .ref (am 3), .ref (am 4), .ref (am 5), .int (M 6 0), .int (M 6 1), .int (M 6 2)])), ((am 1), eI C 12 (M 0)), ((am 2), eI C 12 (M 1)), ((am 3), eI C 12 (M 2)), ((am 4), eI C 12 (M 3)), ((am 5), eII C 2 (rr am 6 2)), ((am 6), eI C 12 (M 4)), ((am 7), eI C 12 (M 5))] H := hP
  have hD : va_D A [((af 0), .inr (1, [.ref (af 1), .ref (af 2), .ref (af 5), .int fm])), ((af 1), .inr (5, [.long (F 0 0), .long (F 0 1), .long (F 0 2), .long (F 0 3), .long (F 0 4), .long (F 0 5), .long (F 0 6), .long (F 0 7), .long (F 0 8), .long (F 0 9), .long (F 0 10), .long (F 0 11), .long (F 0 12)])), ((af 2), eJJ C 2 (rr af 3 2)), ((af 3), eJ C 4 (F 1)), ((af 4), eJ C 4 (vp_updL (F 2) 0 0)), ((af 5), eJJ C 2 (rr af 6 2)), ((af 6), eJ C 3 (F 3)), ((af 7), eJ C 3 (F 4)), ((am 0), .inr (2, [.ref (am 1), .ref (am 2), .ref (am 3), .ref (am 4), .ref (am 5), .int (M 6 0), .int (M 6 1), .int (M 6 2)])), ((am 1), eI C 12 (M 0)), ((am 2), eI C 12 (M 1)), ((am 3), eI C 12 (M 2)), ((am 4), eI C 12 (M 3)), ((am 5), eII C 2 (rr am 6 2)), ((am 6), eI C 12 (M 4)), ((am 7), eI C 12 (M 5))] := hD
  refine lv_aload hx hb dX1_makeSums_13 (lv_at hl 0 rfl) ?_
  refine lv_iconst (v := 1) hx hb dX1_makeSums_15 (by decide) ?_
  refine lv_lconst (v := 0) hx hb dX1_makeSums_16 (by decide) ?_
  refine xlast hx hb hK hP hD hS 4 rfl 1 (nI_lit 1) (by decide) (by decide) dX1_makeSums_17 (fun H locs hP hD hS => ?_)
  have hP : va_P D vwCl [((af 0), .inr (1, [.ref (af 1), .ref (af 2), .ref (af 5), .int fm])), ((af 1), .inr (5, [.long (F 0 0), .long (F 0 1), .long (F 0 2), .long (F 0 3), .long (F 0 4), .long (F 0 5), .long (F 0 6), .long (F 0 7), .long (F 0 8), .long (F 0 9), .long (F 0 10), .long (F 0 11), .long (F 0 12)])), ((af 2), eJJ C 2 (rr af 3 2)), ((af 3), eJ C 4 (F 1)), ((af 4), eJ C 4 (vp_updL (vp_updL (F 2) 0 0) 1 0)), ((af 5), eJJ C 2 (rr af 6 2)), ((af 6), eJ C 3 (F 3)), ((af 7), eJ C 3 (F 4)), ((am 0), .inr (2, [.ref (am 1), .ref (am 2), .ref (am 3), .ref (am 4), .ref (am 5), .int (M 6 0), .int (M 6 1), .int (M 6 2)])), ((am 1), eI C 12 (M 0)), ((am 2), eI C 12 (M 1)), ((am 3), eI C 12 (M 2)), ((am 4), eI C 12 (M 3)), ((am 5), eII C 2 (rr am 6 2)), ((am 6), eI C 12 (M 4)), ((am 7), eI C 12 (M 5))] H := hP
  have hD : va_D A [((af 0), .inr (1, [.ref (af 1), .ref (af 2), .ref (af 5), .int fm])), ((af 1), .inr (5, [.long (F 0 0), .long (F 0 1), .long (F 0 2), .long (F 0 3), .long (F 0 4), .long (F 0 5), .long (F 0 6), .long (F 0 7), .long (F 0 8), .long (F 0 9), .long (F 0 10), .long (F 0 11), .long (F 0 12)])), ((af 2), eJJ C 2 (rr af 3 2)), ((af 3), eJ C 4 (F 1)), ((af 4), eJ C 4 (vp_updL (vp_updL (F 2) 0 0) 1 0)), ((af 5), eJJ C 2 (rr af 6 2)), ((af 6), eJ C 3 (F 3)), ((af 7), eJ C 3 (F 4)), ((am 0), .inr (2, [.ref (am 1), .ref (am 2), .ref (am 3), .ref (am 4), .ref (am 5), .int (M 6 0), .int (M 6 1), .int (M 6 2)])), ((am 1), eI C 12 (M 0)), ((am 2), eI C 12 (M 1)), ((am 3), eI C 12 (M 2)), ((am 4), eI C 12 (M 3)), ((am 5), eII C 2 (rr am 6 2)), ((am 6), eI C 12 (M 4)), ((am 7), eI C 12 (M 5))] := hD
  refine lv_aload hx hb dX1_makeSums_18 (lv_at hl 0 rfl) ?_
  refine lv_iconst (v := 2) hx hb dX1_makeSums_20 (by decide) ?_
  refine lv_lconst (v := 0) hx hb dX1_makeSums_21 (by decide) ?_
  refine xlast hx hb hK hP hD hS 4 rfl 2 (nI_lit 2) (by decide) (by decide) dX1_makeSums_22 (fun H locs hP hD hS => ?_)
  have hP : va_P D vwCl [((af 0), .inr (1, [.ref (af 1), .ref (af 2), .ref (af 5), .int fm])), ((af 1), .inr (5, [.long (F 0 0), .long (F 0 1), .long (F 0 2), .long (F 0 3), .long (F 0 4), .long (F 0 5), .long (F 0 6), .long (F 0 7), .long (F 0 8), .long (F 0 9), .long (F 0 10), .long (F 0 11), .long (F 0 12)])), ((af 2), eJJ C 2 (rr af 3 2)), ((af 3), eJ C 4 (F 1)), ((af 4), eJ C 4 (vp_updL (vp_updL (vp_updL (F 2) 0 0) 1 0) 2 0)), ((af 5), eJJ C 2 (rr af 6 2)), ((af 6), eJ C 3 (F 3)), ((af 7), eJ C 3 (F 4)), ((am 0), .inr (2, [.ref (am 1), .ref (am 2), .ref (am 3), .ref (am 4), .ref (am 5), .int (M 6 0), .int (M 6 1), .int (M 6 2)])), ((am 1), eI C 12 (M 0)), ((am 2), eI C 12 (M 1)), ((am 3), eI C 12 (M 2)), ((am 4), eI C 12 (M 3)), ((am 5), eII C 2 (rr am 6 2)), ((am 6), eI C 12 (M 4)), ((am 7), eI C 12 (M 5))] H := hP
  have hD : va_D A [((af 0), .inr (1, [.ref (af 1), .ref (af 2), .ref (af 5), .int fm])), ((af 1), .inr (5, [.long (F 0 0), .long (F 0 1), .long (F 0 2), .long (F 0 3), .long (F 0 4), .long (F 0 5), .long (F 0 6), .long (F 0 7), .long (F 0 8), .long (F 0 9), .long (F 0 10), .long (F 0 11), .long (F 0 12)])), ((af 2), eJJ C 2 (rr af 3 2)), ((af 3), eJ C 4 (F 1)), ((af 4), eJ C 4 (vp_updL (vp_updL (vp_updL (F 2) 0 0) 1 0) 2 0)), ((af 5), eJJ C 2 (rr af 6 2)), ((af 6), eJ C 3 (F 3)), ((af 7), eJ C 3 (F 4)), ((am 0), .inr (2, [.ref (am 1), .ref (am 2), .ref (am 3), .ref (am 4), .ref (am 5), .int (M 6 0), .int (M 6 1), .int (M 6 2)])), ((am 1), eI C 12 (M 0)), ((am 2), eI C 12 (M 1)), ((am 3), eI C 12 (M 2)), ((am 4), eI C 12 (M 3)), ((am 5), eII C 2 (rr am 6 2)), ((am 6), eI C 12 (M 4)), ((am 7), eI C 12 (M 5))] := hD
  refine lv_aload hx hb dX1_makeSums_23 (lv_at hl 0 rfl) ?_
  refine lv_iconst (v := 3) hx hb dX1_makeSums_25 (by decide) ?_
  refine lv_lconst (v := 0) hx hb dX1_makeSums_26 (by decide) ?_
  refine xlast hx hb hK hP hD hS 4 rfl 3 (nI_lit 3) (by decide) (by decide) dX1_makeSums_27 (fun H locs hP hD hS => ?_)
  have hP : va_P D vwCl [((af 0), .inr (1, [.ref (af 1), .ref (af 2), .ref (af 5), .int fm])), ((af 1), .inr (5, [.long (F 0 0), .long (F 0 1), .long (F 0 2), .long (F 0 3), .long (F 0 4), .long (F 0 5), .long (F 0 6), .long (F 0 7), .long (F 0 8), .long (F 0 9), .long (F 0 10), .long (F 0 11), .long (F 0 12)])), ((af 2), eJJ C 2 (rr af 3 2)), ((af 3), eJ C 4 (F 1)), ((af 4), eJ C 4 (vp_updL (vp_updL (vp_updL (vp_updL (F 2) 0 0) 1 0) 2 0) 3 0)), ((af 5), eJJ C 2 (rr af 6 2)), ((af 6), eJ C 3 (F 3)), ((af 7), eJ C 3 (F 4)), ((am 0), .inr (2, [.ref (am 1), .ref (am 2), .ref (am 3), .ref (am 4), .ref (am 5), .int (M 6 0), .int (M 6 1), .int (M 6 2)])), ((am 1), eI C 12 (M 0)), ((am 2), eI C 12 (M 1)), ((am 3), eI C 12 (M 2)), ((am 4), eI C 12 (M 3)), ((am 5), eII C 2 (rr am 6 2)), ((am 6), eI C 12 (M 4)), ((am 7), eI C 12 (M 5))] H := hP
  have hD : va_D A [((af 0), .inr (1, [.ref (af 1), .ref (af 2), .ref (af 5), .int fm])), ((af 1), .inr (5, [.long (F 0 0), .long (F 0 1), .long (F 0 2), .long (F 0 3), .long (F 0 4), .long (F 0 5), .long (F 0 6), .long (F 0 7), .long (F 0 8), .long (F 0 9), .long (F 0 10), .long (F 0 11), .long (F 0 12)])), ((af 2), eJJ C 2 (rr af 3 2)), ((af 3), eJ C 4 (F 1)), ((af 4), eJ C 4 (vp_updL (vp_updL (vp_updL (vp_updL (F 2) 0 0) 1 0) 2 0) 3 0)), ((af 5), eJJ C 2 (rr af 6 2)), ((af 6), eJ C 3 (F 3)), ((af 7), eJ C 3 (F 4)), ((am 0), .inr (2, [.ref (am 1), .ref (am 2), .ref (am 3), .ref (am 4), .ref (am 5), .int (M 6 0), .int (M 6 1), .int (M 6 2)])), ((am 1), eI C 12 (M 0)), ((am 2), eI C 12 (M 1)), ((am 3), eI C 12 (M 2)), ((am 4), eI C 12 (M 3)), ((am 5), eII C 2 (rr am 6 2)), ((am 6), eI C 12 (M 4)), ((am 7), eI C 12 (M 5))] := hD
  refine lv_iconst (v := 0) hx hb dX1_makeSums_28 (by decide) ?_
  refine lv_istore (lv' := [(5, .int 0), (4, .ref (af 4)), (0, .ref (af 0)), (1, .ref (am 0)), (2, .int 1), (3, .int set)]) hx hb dX1_makeSums_29 hl (by decide) rfl (fun ls hl => ?_)
  refine xgen hP hS (fun H locs hP hS => ?_)
  obtain ⟨n31, k, S1, hinv⟩ : ∃ (n31 : Nat) (k : Nat) (S1 : Nat → Int64), (k + n31 = N) ∧ (msL (M 5) M fm set n31 k S1 = f1_sums (M 5) M fm set N (F 2)) ∧ lv_has ls 8 [(0, .ref (af 0)), (1, .ref (am 0)), (2, .int 1), (3, .int set), (4, .ref (af 4)), (5, .int (nI k))] ∧ va_P D vwCl [((af 0), .inr (1, [.ref (af 1), .ref (af 2), .ref (af 5), .int fm])), ((af 1), .inr (5, [.long (F 0 0), .long (F 0 1), .long (F 0 2), .long (F 0 3), .long (F 0 4), .long (F 0 5), .long (F 0 6), .long (F 0 7), .long (F 0 8), .long (F 0 9), .long (F 0 10), .long (F 0 11), .long (F 0 12)])), ((af 2), eJJ C 2 (rr af 3 2)), ((af 3), eJ C 4 (F 1)), ((af 4), eJ C 4 S1), ((af 5), eJJ C 2 (rr af 6 2)), ((af 6), eJ C 3 (F 3)), ((af 7), eJ C 3 (F 4)), ((am 0), .inr (2, [.ref (am 1), .ref (am 2), .ref (am 3), .ref (am 4), .ref (am 5), .int (M 6 0), .int (M 6 1), .int (M 6 2)])), ((am 1), eI C 12 (M 0)), ((am 2), eI C 12 (M 1)), ((am 3), eI C 12 (M 2)), ((am 4), eI C 12 (M 3)), ((am 5), eII C 2 (rr am 6 2)), ((am 6), eI C 12 (M 4)), ((am 7), eI C 12 (M 5))] H ∧ va_D A [((af 0), .inr (1, [.ref (af 1), .ref (af 2), .ref (af 5), .int fm])), ((af 1), .inr (5, [.long (F 0 0), .long (F 0 1), .long (F 0 2), .long (F 0 3), .long (F 0 4), .long (F 0 5), .long (F 0 6), .long (F 0 7), .long (F 0 8), .long (F 0 9), .long (F 0 10), .long (F 0 11), .long (F 0 12)])), ((af 2), eJJ C 2 (rr af 3 2)), ((af 3), eJ C 4 (F 1)), ((af 4), eJ C 4 S1), ((af 5), eJJ C 2 (rr af 6 2)), ((af 6), eJ C 3 (F 3)), ((af 7), eJ C 3 (F 4)), ((am 0), .inr (2, [.ref (am 1), .ref (am 2), .ref (am 3), .ref (am 4), .ref (am 5), .int (M 6 0), .int (M 6 1), .int (M 6 2)])), ((am 1), eI C 12 (M 0)), ((am 2), eI C 12 (M 1)), ((am 3), eI C 12 (M 2)), ((am 4), eI C 12 (M 3)), ((am 5), eII C 2 (rr am 6 2)), ((am 6), eI C 12 (M 4)), ((am 7), eI C 12 (M 5))] ∧ va_S A s.heap H locs := ⟨N, 0, (vp_updL (vp_updL (vp_updL (vp_updL (F 2) 0 0) 1 0) 2 0) 3 0), by omega, rfl, lv_sub hl [2, 3, 4, 5, 1, 0] rfl, hP, hD, hS⟩
  clear hl hP hD hS
  induction n31 generalizing k S1 ls H locs with
  | zero =>
    obtain ⟨h31_0, h31_1, hl, hP, hD, hS⟩ := hinv
    refine lv_iload hx hb dX1_makeSums_31 (lv_at hl 5 rfl) ?_
    refine lv_aload_n hx hb dX1_makeSums_33 rfl (lv_at hl 1 rfl) ?_
    refine va_getN (D := D) (host := "FieldAfterField") (ci := 2) (C := RX2) (T := TX2) (N := 8) hx hb hW inX2 hown hK hP 8 rfl rfl 5 (by decide) (va_Nw.use rfl (hNw _ tw40 rfl)) (fun _ h9 => h9) rfl dX1_makeSums_34 ?_
    refine lv_icmp_ge (tgt := 130) hx hb dX1_makeSums_37 (by decide) (fun c_1 => ?_) (fun c_1 => ?_)
    · have e_S1 : S1 = f1_sums (M 5) M fm set N (F 2) := h31_1
      subst e_S1
      have hP9 : va_P D vwCl (((wF af C (uM F 2 (f1_sums (M 5) M fm set N (F 2))) fm) ++ (wM am C M))) H := hP
      have hD9 : va_D A (((wF af C (uM F 2 (f1_sums (M 5) M fm set N (F 2))) fm) ++ (wM am C M))) := hD
      exact W.vret hx hb hr (fun t ht _ => ⟨⟨(), rfl, trivial, ⟨by rw [ht]; exact hP9, by rw [hAe]; exact hD9⟩⟩, hS.F ht⟩) hS.2.2 dX1_makeSums_130
    · exact absurd (q_le hN rfl (by omega) (by omega)) c_1
  | succ n31 ih31 =>
    obtain ⟨h31_0, h31_1, hl, hP, hD, hS⟩ := hinv
    refine lv_iload hx hb dX1_makeSums_31 (lv_at hl 5 rfl) ?_
    refine lv_aload_n hx hb dX1_makeSums_33 rfl (lv_at hl 1 rfl) ?_
    refine va_getN (D := D) (host := "FieldAfterField") (ci := 2) (C := RX2) (T := TX2) (N := 8) hx hb hW inX2 hown hK hP 8 rfl rfl 5 (by decide) (va_Nw.use rfl (hNw _ tw40 rfl)) (fun _ h9 => h9) rfl dX1_makeSums_34 ?_
    refine lv_icmp_ge (tgt := 130) hx hb dX1_makeSums_37 (by decide) (fun c_2 => ?_) (fun c_2 => ?_)
    · exact absurd c_2 (q_nle hN rfl (by omega) (by omega))
    · refine lv_iload_n hx hb dX1_makeSums_40 rfl (lv_at hl 3 rfl) ?_
      refine lv_iload hx hb dX1_makeSums_41 (lv_at hl 5 rfl) ?_
      refine xri (r := f6_isIn set (nI k)) (rSN (As := [.int set, .int (nI k)]) (n := 2) (rest := []) ⟨hx, hb, hml, hown, hW⟩ (kX6_isIn l set (nI k)) (wa tw285 rfl) (hNw _ tw339 rfl) (wa tw284 rfl) (wa tw1 rfl) (by decide +kernel) ⟨Nat.le_of_ble_eq_true rfl, Nat.le_of_ble_eq_true rfl⟩ pS0 hl.1 rfl (Nat.le_of_ble_eq_true rfl) dX1_makeSums_43 ⟨Nat.le_of_ble_eq_true rfl, Nat.le_of_ble_eq_true rfl⟩ rfl rfl rfl) ?_
      refine lv_if_eq (tgt := 124) hx hb dX1_makeSums_46 (by decide) (fun c_3 => ?_) (fun c_3 => ?_)
      · refine lv_iinc (v := nI k + 1) (lv' := [(5, .int (nI k + 1)), (0, .ref (af 0)), (1, .ref (am 0)), (2, .int 1), (3, .int set), (4, .ref (af 4))]) hx hb dX1_makeSums_124 hl (k := 5) rfl rfl (by decide) rfl (fun ls hl => ?_)
        refine lv_goto (tgt := 31) hx hb dX1_makeSums_127 (by decide) ?_
        rw [nI_1] at hl
        exact ih31 (k := k + 1) (S1 := S1) (ls := ls) (H := H) (locs := locs) ⟨by omega, by rw [← h31_1, msL, if_pos c_3]; try rfl, lv_sub hl [1, 2, 3, 4, 5, 0] rfl, hP, hD, hS⟩
      · refine lv_aload_n hx hb dX1_makeSums_49 rfl (lv_at hl 1 rfl) ?_
        refine va_getN (D := D) (host := "FieldAfterField") (ci := 2) (C := RX2) (T := TX2) (N := 8) hx hb hW inX2 hown hK hP 8 rfl rfl 4 (by decide) (va_Nw.use rfl (hNw _ tw37 rfl)) (fun _ h9 => h9) rfl dX1_makeSums_50 ?_
        refine lv_iload_n hx hb dX1_makeSums_53 rfl (lv_at hl 2 rfl) ?_
        refine xaaldI hx hb hK hP 13 rfl 1 (nI_lit 1) (by decide) (by decide) (b := (am 7)) rfl dX1_makeSums_54 ?_
        refine lv_iload hx hb dX1_makeSums_55 (lv_at hl 5 rfl) ?_
        refine xiald hx hb hK hP 15 rfl k rfl (by omega) (by decide) dX1_makeSums_57 ?_
        refine lv_i2l (v := ((M 5) k).toInt64) hx hb dX1_makeSums_58 rfl ?_
        refine lv_lstore (lv' := [(6, .long (((M 5) k).toInt64)), (0, .ref (af 0)), (1, .ref (am 0)), (2, .int 1), (3, .int set), (4, .ref (af 4)), (5, .int (nI k))]) hx hb dX1_makeSums_59 hl (by decide) rfl (fun ls hl => ?_)
        refine lv_aload hx hb dX1_makeSums_61 (lv_at hl 5 rfl) ?_
        refine lv_iconst (v := 0) hx hb dX1_makeSums_63 (by decide) ?_
        refine lv_dup2_11 hx hb dX1_makeSums_64 rfl rfl ?_
        refine xlald hx hb hK hP 4 rfl 0 (nI_lit 0) (by decide) (by decide) dX1_makeSums_65 ?_
        refine lv_lload hx hb dX1_makeSums_66 (lv_at hl 0 rfl) ?_
        refine lv_ladd hx hb dX1_makeSums_68 ?_
        refine xlast hx hb hK hP hD hS 4 rfl 0 (nI_lit 0) (by decide) (by decide) dX1_makeSums_69 (fun H locs hP hD hS => ?_)
        have hP : va_P D vwCl [((af 0), .inr (1, [.ref (af 1), .ref (af 2), .ref (af 5), .int fm])), ((af 1), .inr (5, [.long (F 0 0), .long (F 0 1), .long (F 0 2), .long (F 0 3), .long (F 0 4), .long (F 0 5), .long (F 0 6), .long (F 0 7), .long (F 0 8), .long (F 0 9), .long (F 0 10), .long (F 0 11), .long (F 0 12)])), ((af 2), eJJ C 2 (rr af 3 2)), ((af 3), eJ C 4 (F 1)), ((af 4), eJ C 4 (vp_updL S1 0 ((S1 0) + (((M 5) k).toInt64)))), ((af 5), eJJ C 2 (rr af 6 2)), ((af 6), eJ C 3 (F 3)), ((af 7), eJ C 3 (F 4)), ((am 0), .inr (2, [.ref (am 1), .ref (am 2), .ref (am 3), .ref (am 4), .ref (am 5), .int (M 6 0), .int (M 6 1), .int (M 6 2)])), ((am 1), eI C 12 (M 0)), ((am 2), eI C 12 (M 1)), ((am 3), eI C 12 (M 2)), ((am 4), eI C 12 (M 3)), ((am 5), eII C 2 (rr am 6 2)), ((am 6), eI C 12 (M 4)), ((am 7), eI C 12 (M 5))] H := hP
        have hD : va_D A [((af 0), .inr (1, [.ref (af 1), .ref (af 2), .ref (af 5), .int fm])), ((af 1), .inr (5, [.long (F 0 0), .long (F 0 1), .long (F 0 2), .long (F 0 3), .long (F 0 4), .long (F 0 5), .long (F 0 6), .long (F 0 7), .long (F 0 8), .long (F 0 9), .long (F 0 10), .long (F 0 11), .long (F 0 12)])), ((af 2), eJJ C 2 (rr af 3 2)), ((af 3), eJ C 4 (F 1)), ((af 4), eJ C 4 (vp_updL S1 0 ((S1 0) + (((M 5) k).toInt64)))), ((af 5), eJJ C 2 (rr af 6 2)), ((af 6), eJ C 3 (F 3)), ((af 7), eJ C 3 (F 4)), ((am 0), .inr (2, [.ref (am 1), .ref (am 2), .ref (am 3), .ref (am 4), .ref (am 5), .int (M 6 0), .int (M 6 1), .int (M 6 2)])), ((am 1), eI C 12 (M 0)), ((am 2), eI C 12 (M 1)), ((am 3), eI C 12 (M 2)), ((am 4), eI C 12 (M 3)), ((am 5), eII C 2 (rr am 6 2)), ((am 6), eI C 12 (M 4)), ((am 7), eI C 12 (M 5))] := hD
        refine lv_aload hx hb dX1_makeSums_70 (lv_at hl 5 rfl) ?_
        refine lv_iconst (v := 1) hx hb dX1_makeSums_72 (by decide) ?_
        refine lv_dup2_11 hx hb dX1_makeSums_73 rfl rfl ?_
        refine xlald hx hb hK hP 4 rfl 1 (nI_lit 1) (by decide) (by decide) dX1_makeSums_74 ?_
        refine lv_lload hx hb dX1_makeSums_75 (lv_at hl 0 rfl) ?_
        refine lv_aload_n hx hb dX1_makeSums_77 rfl (lv_at hl 2 rfl) ?_
        refine lv_aload_n hx hb dX1_makeSums_78 rfl (lv_at hl 1 rfl) ?_
        refine va_get (D := D) (ci := 1) (C := RX1) (T := TX1) (N := 4) hx hb hW inX1 hown hK hP 0 rfl rfl 3 (by decide) (hW _ (wa tw133 rfl)) (fun _ h9 => h9) rfl dX1_makeSums_79 ?_
        refine lv_iload hx hb dX1_makeSums_82 (lv_at hl 6 rfl) ?_
        refine xri (r := f2_second M fm k) (rVN (As := [.int fm, .int (nI k)]) (n := 2) (rest := [.long (((M 5) k).toInt64), .long ((vp_updL S1 0 ((S1 0) + (((M 5) k).toInt64))) 1), .int 1, .ref (af 4)]) ⟨hx, hb, hml, hown, hW⟩ (kX2_secondTerm l D C am M fm k (by omega)) (wa tw343 rfl) (hNw _ tw340 rfl) (wa tw342 rfl) (was ts11 rfl) (wa tw2 rfl) (by decide +kernel) ⟨Nat.le_of_ble_eq_true rfl, Nat.le_of_ble_eq_true rfl⟩ (pVr (hP.sub [8, 9, 10, 11, 12, 13, 14, 15] rfl) hK hNw 0 rfl rfl) hl.1 rfl (Nat.le_of_ble_eq_true rfl) dX1_makeSums_84 ⟨Nat.le_of_ble_eq_true rfl, Nat.le_of_ble_eq_true rfl⟩ rfl rfl rfl) ?_
        refine lv_i2l (v := (f2_second M fm k).toInt64) hx hb dX1_makeSums_87 rfl ?_
        refine lv_lmul hx hb dX1_makeSums_88 ?_
        refine lv_ladd hx hb dX1_makeSums_89 ?_
        refine xlast hx hb hK hP hD hS 4 rfl 1 (nI_lit 1) (by decide) (by decide) dX1_makeSums_90 (fun H locs hP hD hS => ?_)
        have hP : va_P D vwCl [((af 0), .inr (1, [.ref (af 1), .ref (af 2), .ref (af 5), .int fm])), ((af 1), .inr (5, [.long (F 0 0), .long (F 0 1), .long (F 0 2), .long (F 0 3), .long (F 0 4), .long (F 0 5), .long (F 0 6), .long (F 0 7), .long (F 0 8), .long (F 0 9), .long (F 0 10), .long (F 0 11), .long (F 0 12)])), ((af 2), eJJ C 2 (rr af 3 2)), ((af 3), eJ C 4 (F 1)), ((af 4), eJ C 4 (vp_updL (vp_updL S1 0 ((S1 0) + (((M 5) k).toInt64))) 1 (((vp_updL S1 0 ((S1 0) + (((M 5) k).toInt64))) 1) + ((((M 5) k).toInt64) * ((f2_second M fm k).toInt64))))), ((af 5), eJJ C 2 (rr af 6 2)), ((af 6), eJ C 3 (F 3)), ((af 7), eJ C 3 (F 4)), ((am 0), .inr (2, [.ref (am 1), .ref (am 2), .ref (am 3), .ref (am 4), .ref (am 5), .int (M 6 0), .int (M 6 1), .int (M 6 2)])), ((am 1), eI C 12 (M 0)), ((am 2), eI C 12 (M 1)), ((am 3), eI C 12 (M 2)), ((am 4), eI C 12 (M 3)), ((am 5), eII C 2 (rr am 6 2)), ((am 6), eI C 12 (M 4)), ((am 7), eI C 12 (M 5))] H := hP
        have hD : va_D A [((af 0), .inr (1, [.ref (af 1), .ref (af 2), .ref (af 5), .int fm])), ((af 1), .inr (5, [.long (F 0 0), .long (F 0 1), .long (F 0 2), .long (F 0 3), .long (F 0 4), .long (F 0 5), .long (F 0 6), .long (F 0 7), .long (F 0 8), .long (F 0 9), .long (F 0 10), .long (F 0 11), .long (F 0 12)])), ((af 2), eJJ C 2 (rr af 3 2)), ((af 3), eJ C 4 (F 1)), ((af 4), eJ C 4 (vp_updL (vp_updL S1 0 ((S1 0) + (((M 5) k).toInt64))) 1 (((vp_updL S1 0 ((S1 0) + (((M 5) k).toInt64))) 1) + ((((M 5) k).toInt64) * ((f2_second M fm k).toInt64))))), ((af 5), eJJ C 2 (rr af 6 2)), ((af 6), eJ C 3 (F 3)), ((af 7), eJ C 3 (F 4)), ((am 0), .inr (2, [.ref (am 1), .ref (am 2), .ref (am 3), .ref (am 4), .ref (am 5), .int (M 6 0), .int (M 6 1), .int (M 6 2)])), ((am 1), eI C 12 (M 0)), ((am 2), eI C 12 (M 1)), ((am 3), eI C 12 (M 2)), ((am 4), eI C 12 (M 3)), ((am 5), eII C 2 (rr am 6 2)), ((am 6), eI C 12 (M 4)), ((am 7), eI C 12 (M 5))] := hD
        refine lv_aload hx hb dX1_makeSums_91 (lv_at hl 5 rfl) ?_
        refine lv_iconst (v := 2) hx hb dX1_makeSums_93 (by decide) ?_
        refine lv_dup2_11 hx hb dX1_makeSums_94 rfl rfl ?_
        refine xlald hx hb hK hP 4 rfl 2 (nI_lit 2) (by decide) (by decide) dX1_makeSums_95 ?_
        refine lv_lload hx hb dX1_makeSums_96 (lv_at hl 0 rfl) ?_
        refine lv_aload_n hx hb dX1_makeSums_98 rfl (lv_at hl 2 rfl) ?_
        refine lv_aload_n hx hb dX1_makeSums_99 rfl (lv_at hl 1 rfl) ?_
        refine va_get (D := D) (ci := 1) (C := RX1) (T := TX1) (N := 4) hx hb hW inX1 hown hK hP 0 rfl rfl 3 (by decide) (hW _ (wa tw133 rfl)) (fun _ h9 => h9) rfl dX1_makeSums_100 ?_
        refine lv_iload hx hb dX1_makeSums_103 (lv_at hl 6 rfl) ?_
        refine xri (r := f2_third M fm k) (rVN (As := [.int fm, .int (nI k)]) (n := 2) (rest := [.long (((M 5) k).toInt64), .long ((vp_updL (vp_updL S1 0 ((S1 0) + (((M 5) k).toInt64))) 1 (((vp_updL S1 0 ((S1 0) + (((M 5) k).toInt64))) 1) + ((((M 5) k).toInt64) * ((f2_second M fm k).toInt64)))) 2), .int 2, .ref (af 4)]) ⟨hx, hb, hml, hown, hW⟩ (kX2_thirdTerm l D C am M fm k (by omega)) (wa tw347 rfl) (hNw _ tw344 rfl) (wa tw346 rfl) (was ts12 rfl) (wa tw2 rfl) (by decide +kernel) ⟨Nat.le_of_ble_eq_true rfl, Nat.le_of_ble_eq_true rfl⟩ (pVr (hP.sub [8, 9, 10, 11, 12, 13, 14, 15] rfl) hK hNw 0 rfl rfl) hl.1 rfl (Nat.le_of_ble_eq_true rfl) dX1_makeSums_105 ⟨Nat.le_of_ble_eq_true rfl, Nat.le_of_ble_eq_true rfl⟩ rfl rfl rfl) ?_
        refine lv_i2l (v := (f2_third M fm k).toInt64) hx hb dX1_makeSums_108 rfl ?_
        refine lv_lmul hx hb dX1_makeSums_109 ?_
        refine lv_ladd hx hb dX1_makeSums_110 ?_
        refine xlast hx hb hK hP hD hS 4 rfl 2 (nI_lit 2) (by decide) (by decide) dX1_makeSums_111 (fun H locs hP hD hS => ?_)
        have hP : va_P D vwCl [((af 0), .inr (1, [.ref (af 1), .ref (af 2), .ref (af 5), .int fm])), ((af 1), .inr (5, [.long (F 0 0), .long (F 0 1), .long (F 0 2), .long (F 0 3), .long (F 0 4), .long (F 0 5), .long (F 0 6), .long (F 0 7), .long (F 0 8), .long (F 0 9), .long (F 0 10), .long (F 0 11), .long (F 0 12)])), ((af 2), eJJ C 2 (rr af 3 2)), ((af 3), eJ C 4 (F 1)), ((af 4), eJ C 4 (vp_updL (vp_updL (vp_updL S1 0 ((S1 0) + (((M 5) k).toInt64))) 1 (((vp_updL S1 0 ((S1 0) + (((M 5) k).toInt64))) 1) + ((((M 5) k).toInt64) * ((f2_second M fm k).toInt64)))) 2 (((vp_updL (vp_updL S1 0 ((S1 0) + (((M 5) k).toInt64))) 1 (((vp_updL S1 0 ((S1 0) + (((M 5) k).toInt64))) 1) + ((((M 5) k).toInt64) * ((f2_second M fm k).toInt64)))) 2) + ((((M 5) k).toInt64) * ((f2_third M fm k).toInt64))))), ((af 5), eJJ C 2 (rr af 6 2)), ((af 6), eJ C 3 (F 3)), ((af 7), eJ C 3 (F 4)), ((am 0), .inr (2, [.ref (am 1), .ref (am 2), .ref (am 3), .ref (am 4), .ref (am 5), .int (M 6 0), .int (M 6 1), .int (M 6 2)])), ((am 1), eI C 12 (M 0)), ((am 2), eI C 12 (M 1)), ((am 3), eI C 12 (M 2)), ((am 4), eI C 12 (M 3)), ((am 5), eII C 2 (rr am 6 2)), ((am 6), eI C 12 (M 4)), ((am 7), eI C 12 (M 5))] H := hP
        have hD : va_D A [((af 0), .inr (1, [.ref (af 1), .ref (af 2), .ref (af 5), .int fm])), ((af 1), .inr (5, [.long (F 0 0), .long (F 0 1), .long (F 0 2), .long (F 0 3), .long (F 0 4), .long (F 0 5), .long (F 0 6), .long (F 0 7), .long (F 0 8), .long (F 0 9), .long (F 0 10), .long (F 0 11), .long (F 0 12)])), ((af 2), eJJ C 2 (rr af 3 2)), ((af 3), eJ C 4 (F 1)), ((af 4), eJ C 4 (vp_updL (vp_updL (vp_updL S1 0 ((S1 0) + (((M 5) k).toInt64))) 1 (((vp_updL S1 0 ((S1 0) + (((M 5) k).toInt64))) 1) + ((((M 5) k).toInt64) * ((f2_second M fm k).toInt64)))) 2 (((vp_updL (vp_updL S1 0 ((S1 0) + (((M 5) k).toInt64))) 1 (((vp_updL S1 0 ((S1 0) + (((M 5) k).toInt64))) 1) + ((((M 5) k).toInt64) * ((f2_second M fm k).toInt64)))) 2) + ((((M 5) k).toInt64) * ((f2_third M fm k).toInt64))))), ((af 5), eJJ C 2 (rr af 6 2)), ((af 6), eJ C 3 (F 3)), ((af 7), eJ C 3 (F 4)), ((am 0), .inr (2, [.ref (am 1), .ref (am 2), .ref (am 3), .ref (am 4), .ref (am 5), .int (M 6 0), .int (M 6 1), .int (M 6 2)])), ((am 1), eI C 12 (M 0)), ((am 2), eI C 12 (M 1)), ((am 3), eI C 12 (M 2)), ((am 4), eI C 12 (M 3)), ((am 5), eII C 2 (rr am 6 2)), ((am 6), eI C 12 (M 4)), ((am 7), eI C 12 (M 5))] := hD
        refine lv_aload hx hb dX1_makeSums_112 (lv_at hl 5 rfl) ?_
        refine lv_iconst (v := 3) hx hb dX1_makeSums_114 (by decide) ?_
        refine lv_dup2_11 hx hb dX1_makeSums_115 rfl rfl ?_
        refine xlald hx hb hK hP 4 rfl 3 (nI_lit 3) (by decide) (by decide) dX1_makeSums_116 ?_
        refine lv_lload hx hb dX1_makeSums_117 (lv_at hl 0 rfl) ?_
        refine lv_lload hx hb dX1_makeSums_119 (lv_at hl 0 rfl) ?_
        refine lv_lmul hx hb dX1_makeSums_121 ?_
        refine lv_ladd hx hb dX1_makeSums_122 ?_
        refine xlast hx hb hK hP hD hS 4 rfl 3 (nI_lit 3) (by decide) (by decide) dX1_makeSums_123 (fun H locs hP hD hS => ?_)
        have hP : va_P D vwCl [((af 0), .inr (1, [.ref (af 1), .ref (af 2), .ref (af 5), .int fm])), ((af 1), .inr (5, [.long (F 0 0), .long (F 0 1), .long (F 0 2), .long (F 0 3), .long (F 0 4), .long (F 0 5), .long (F 0 6), .long (F 0 7), .long (F 0 8), .long (F 0 9), .long (F 0 10), .long (F 0 11), .long (F 0 12)])), ((af 2), eJJ C 2 (rr af 3 2)), ((af 3), eJ C 4 (F 1)), ((af 4), eJ C 4 (vp_updL (vp_updL (vp_updL (vp_updL S1 0 ((S1 0) + (((M 5) k).toInt64))) 1 (((vp_updL S1 0 ((S1 0) + (((M 5) k).toInt64))) 1) + ((((M 5) k).toInt64) * ((f2_second M fm k).toInt64)))) 2 (((vp_updL (vp_updL S1 0 ((S1 0) + (((M 5) k).toInt64))) 1 (((vp_updL S1 0 ((S1 0) + (((M 5) k).toInt64))) 1) + ((((M 5) k).toInt64) * ((f2_second M fm k).toInt64)))) 2) + ((((M 5) k).toInt64) * ((f2_third M fm k).toInt64)))) 3 (((vp_updL (vp_updL (vp_updL S1 0 ((S1 0) + (((M 5) k).toInt64))) 1 (((vp_updL S1 0 ((S1 0) + (((M 5) k).toInt64))) 1) + ((((M 5) k).toInt64) * ((f2_second M fm k).toInt64)))) 2 (((vp_updL (vp_updL S1 0 ((S1 0) + (((M 5) k).toInt64))) 1 (((vp_updL S1 0 ((S1 0) + (((M 5) k).toInt64))) 1) + ((((M 5) k).toInt64) * ((f2_second M fm k).toInt64)))) 2) + ((((M 5) k).toInt64) * ((f2_third M fm k).toInt64)))) 3) + ((((M 5) k).toInt64) * (((M 5) k).toInt64))))), ((af 5), eJJ C 2 (rr af 6 2)), ((af 6), eJ C 3 (F 3)), ((af 7), eJ C 3 (F 4)), ((am 0), .inr (2, [.ref (am 1), .ref (am 2), .ref (am 3), .ref (am 4), .ref (am 5), .int (M 6 0), .int (M 6 1), .int (M 6 2)])), ((am 1), eI C 12 (M 0)), ((am 2), eI C 12 (M 1)), ((am 3), eI C 12 (M 2)), ((am 4), eI C 12 (M 3)), ((am 5), eII C 2 (rr am 6 2)), ((am 6), eI C 12 (M 4)), ((am 7), eI C 12 (M 5))] H := hP
        have hD : va_D A [((af 0), .inr (1, [.ref (af 1), .ref (af 2), .ref (af 5), .int fm])), ((af 1), .inr (5, [.long (F 0 0), .long (F 0 1), .long (F 0 2), .long (F 0 3), .long (F 0 4), .long (F 0 5), .long (F 0 6), .long (F 0 7), .long (F 0 8), .long (F 0 9), .long (F 0 10), .long (F 0 11), .long (F 0 12)])), ((af 2), eJJ C 2 (rr af 3 2)), ((af 3), eJ C 4 (F 1)), ((af 4), eJ C 4 (vp_updL (vp_updL (vp_updL (vp_updL S1 0 ((S1 0) + (((M 5) k).toInt64))) 1 (((vp_updL S1 0 ((S1 0) + (((M 5) k).toInt64))) 1) + ((((M 5) k).toInt64) * ((f2_second M fm k).toInt64)))) 2 (((vp_updL (vp_updL S1 0 ((S1 0) + (((M 5) k).toInt64))) 1 (((vp_updL S1 0 ((S1 0) + (((M 5) k).toInt64))) 1) + ((((M 5) k).toInt64) * ((f2_second M fm k).toInt64)))) 2) + ((((M 5) k).toInt64) * ((f2_third M fm k).toInt64)))) 3 (((vp_updL (vp_updL (vp_updL S1 0 ((S1 0) + (((M 5) k).toInt64))) 1 (((vp_updL S1 0 ((S1 0) + (((M 5) k).toInt64))) 1) + ((((M 5) k).toInt64) * ((f2_second M fm k).toInt64)))) 2 (((vp_updL (vp_updL S1 0 ((S1 0) + (((M 5) k).toInt64))) 1 (((vp_updL S1 0 ((S1 0) + (((M 5) k).toInt64))) 1) + ((((M 5) k).toInt64) * ((f2_second M fm k).toInt64)))) 2) + ((((M 5) k).toInt64) * ((f2_third M fm k).toInt64)))) 3) + ((((M 5) k).toInt64) * (((M 5) k).toInt64))))), ((af 5), eJJ C 2 (rr af 6 2)), ((af 6), eJ C 3 (F 3)), ((af 7), eJ C 3 (F 4)), ((am 0), .inr (2, [.ref (am 1), .ref (am 2), .ref (am 3), .ref (am 4), .ref (am 5), .int (M 6 0), .int (M 6 1), .int (M 6 2)])), ((am 1), eI C 12 (M 0)), ((am 2), eI C 12 (M 1)), ((am 3), eI C 12 (M 2)), ((am 4), eI C 12 (M 3)), ((am 5), eII C 2 (rr am 6 2)), ((am 6), eI C 12 (M 4)), ((am 7), eI C 12 (M 5))] := hD
        refine lv_iinc (v := nI k + 1) (lv' := [(5, .int (nI k + 1)), (6, .long (((M 5) k).toInt64)), (0, .ref (af 0)), (1, .ref (am 0)), (2, .int 1), (3, .int set), (4, .ref (af 4))]) hx hb dX1_makeSums_124 hl (k := 6) rfl rfl (by decide) rfl (fun ls hl => ?_)
        refine lv_goto (tgt := 31) hx hb dX1_makeSums_127 (by decide) ?_
        rw [nI_1] at hl
        exact ih31 (k := k + 1) (S1 := (vp_updL (vp_updL (vp_updL (vp_updL S1 0 ((S1 0) + (((M 5) k).toInt64))) 1 (((vp_updL S1 0 ((S1 0) + (((M 5) k).toInt64))) 1) + ((((M 5) k).toInt64) * ((f2_second M fm k).toInt64)))) 2 (((vp_updL (vp_updL S1 0 ((S1 0) + (((M 5) k).toInt64))) 1 (((vp_updL S1 0 ((S1 0) + (((M 5) k).toInt64))) 1) + ((((M 5) k).toInt64) * ((f2_second M fm k).toInt64)))) 2) + ((((M 5) k).toInt64) * ((f2_third M fm k).toInt64)))) 3 (((vp_updL (vp_updL (vp_updL S1 0 ((S1 0) + (((M 5) k).toInt64))) 1 (((vp_updL S1 0 ((S1 0) + (((M 5) k).toInt64))) 1) + ((((M 5) k).toInt64) * ((f2_second M fm k).toInt64)))) 2 (((vp_updL (vp_updL S1 0 ((S1 0) + (((M 5) k).toInt64))) 1 (((vp_updL S1 0 ((S1 0) + (((M 5) k).toInt64))) 1) + ((((M 5) k).toInt64) * ((f2_second M fm k).toInt64)))) 2) + ((((M 5) k).toInt64) * ((f2_third M fm k).toInt64)))) 3) + ((((M 5) k).toInt64) * (((M 5) k).toInt64))))) (ls := ls) (H := H) (locs := locs) ⟨by omega, by rw [← h31_1, msL, if_neg c_3]; try rfl, lv_sub hl [2, 3, 4, 5, 6, 0] rfl, hP, hD, hS⟩

set_option maxHeartbeats 4000000 in
set_option maxRecDepth 100000 in
theorem kX1_makeFactors_1 (l : Launch) (D : va_G) (C : Nat → ClassId) (af : Nat → Nat) (F : Nat → Nat → Int64) (fm : Int32)  (sz : Nat)  : Wv l D C yX1_makeFactors cX1_makeFactors 4 0 [.ref (af 0), .int 1] (wF af C F fm) ((wF af C (uM F 4 (f1_fac (F 0) (F 2) (F 4))) fm)) sz := by
  refine Met.ofW (cc := cX1_makeFactors) (maxL := 4) (ret := none) (by decide) rfl ?_
  intro p e s m args below meth c s₁ B hml hv
  obtain ⟨rfl, hsz, hP, hK, hNw, hD0⟩ := hv
  have hx := B.exec
  have hb := B.bytes
  have hr := B.returns
  have hts := atoms_spec (ws := wm yX1_makeFactors cX1_makeFactors 4 none) B.pre
  have hown : s.vm.findClass RX1 = some m.cls := findClass_of_methodNamed B.named
  have hlocks := B.notSynchronized
  have hW : ∀ w ∈ WA, w.before _ s = true := fun w h => hts w (List.mem_cons_of_mem _ h)
  subst hsz
  have hD := hD0.self (sz := s.heap.size)
  generalize hAe : va_A (wF af C F fm) s.heap.size = A at hD ⊢
  have hA : ∀ q : Nat, s.heap.size ≤ q → A q := fun q h => by rw [← hAe]; exact Or.inr h
  have hS : va_S A s.heap s.heap [] := va_S.rf
  have hP : va_P D vwCl [((af 0), .inr (1, [.ref (af 1), .ref (af 2), .ref (af 5), .int fm])), ((af 1), .inr (5, [.long (F 0 0), .long (F 0 1), .long (F 0 2), .long (F 0 3), .long (F 0 4), .long (F 0 5), .long (F 0 6), .long (F 0 7), .long (F 0 8), .long (F 0 9), .long (F 0 10), .long (F 0 11), .long (F 0 12)])), ((af 2), eJJ C 2 (rr af 3 2)), ((af 3), eJ C 4 (F 1)), ((af 4), eJ C 4 (F 2)), ((af 5), eJJ C 2 (rr af 6 2)), ((af 6), eJ C 3 (F 3)), ((af 7), eJ C 3 (F 4))] s.heap := hP
  have hD : va_D A [((af 0), .inr (1, [.ref (af 1), .ref (af 2), .ref (af 5), .int fm])), ((af 1), .inr (5, [.long (F 0 0), .long (F 0 1), .long (F 0 2), .long (F 0 3), .long (F 0 4), .long (F 0 5), .long (F 0 6), .long (F 0 7), .long (F 0 8), .long (F 0 9), .long (F 0 10), .long (F 0 11), .long (F 0 12)])), ((af 2), eJJ C 2 (rr af 3 2)), ((af 3), eJ C 4 (F 1)), ((af 4), eJ C 4 (F 2)), ((af 5), eJJ C 2 (rr af 6 2)), ((af 6), eJ C 3 (F 3)), ((af 7), eJ C 3 (F 4))] := hD
  have hl := lv_entry ([.ref (af 0), .int 1]) (n := 4) (Nat.le_of_ble_eq_true rfl)
  rw [lg_entry_eq]
  generalize (lg_sl ([.ref (af 0), .int 1]) ++ List.replicate (4 - (lg_sl ([.ref (af 0), .int 1])).length) Slot.unset).toArray = ls at hl ⊢
  have hl : lv_has ls 4 [(0, .ref (af 0)), (1, .int 1)] := hl
  refine lv_aload_n hx hb dX1_makeFactors_0 rfl (lv_at hl 0 rfl) ?_
  refine va_get (D := D) (ci := 1) (C := RX1) (T := TX1) (N := 4) hx hb hW inX1 hown hK hP 0 rfl rfl 1 (by decide) (hW _ (wa tw130 rfl)) (fun _ h9 => h9) rfl dX1_makeFactors_1 ?_
  refine lv_iload_n hx hb dX1_makeFactors_4 rfl (lv_at hl 1 rfl) ?_
  refine xaaldJ hx hb hK hP 2 rfl 1 (nI_lit 1) (by decide) (by decide) (b := (af 4)) rfl dX1_makeFactors_5 ?_
  refine lv_astore_n (lv' := [(2, .ref (af 4)), (0, .ref (af 0)), (1, .int 1)]) hx hb dX1_makeFactors_6 rfl hl (by decide) rfl (fun ls hl => ?_)
  refine lv_aload_n hx hb dX1_makeFactors_7 rfl (lv_at hl 1 rfl) ?_
  refine va_get (D := D) (ci := 1) (C := RX1) (T := TX1) (N := 4) hx hb hW inX1 hown hK hP 0 rfl rfl 2 (by decide) (hW _ (wa tw131 rfl)) (fun _ h9 => h9) rfl dX1_makeFactors_8 ?_
  refine lv_iload_n hx hb dX1_makeFactors_11 rfl (lv_at hl 2 rfl) ?_
  refine xaaldJ hx hb hK hP 5 rfl 1 (nI_lit 1) (by decide) (by decide) (b := (af 7)) rfl dX1_makeFactors_12 ?_
  refine lv_astore_n (lv' := [(3, .ref (af 7)), (2, .ref (af 4)), (0, .ref (af 0)), (1, .int 1)]) hx hb dX1_makeFactors_13 rfl hl (by decide) rfl (fun ls hl => ?_)
  refine lv_aload_n hx hb dX1_makeFactors_14 rfl (lv_at hl 0 rfl) ?_
  refine lv_iconst (v := 0) hx hb dX1_makeFactors_15 (by decide) ?_
  refine lv_aload_n hx hb dX1_makeFactors_16 rfl (lv_at hl 2 rfl) ?_
  refine va_get (D := D) (ci := 1) (C := RX1) (T := TX1) (N := 4) hx hb hW inX1 hown hK hP 0 rfl rfl 0 (by decide) (hW _ (wa tw128 rfl)) (fun _ h9 => h9) rfl dX1_makeFactors_17 ?_
  refine va_getN (D := D) (host := "FieldAfterField") (ci := 5) (C := RX5) (T := TX5) (N := 13) hx hb hW inX5 hown hK hP 1 rfl rfl 6 (by decide) (va_Nw.use rfl (hNw _ tw84 rfl)) (fun _ h9 => h9) rfl dX1_makeFactors_20 ?_
  refine lv_aload_n hx hb dX1_makeFactors_23 rfl (lv_at hl 1 rfl) ?_
  refine lv_iconst (v := 0) hx hb dX1_makeFactors_24 (by decide) ?_
  refine xlald hx hb hK hP 4 rfl 0 (nI_lit 0) (by decide) (by decide) dX1_makeFactors_25 ?_
  refine lv_lmul hx hb dX1_makeFactors_26 ?_
  refine lv_aload_n hx hb dX1_makeFactors_27 rfl (lv_at hl 2 rfl) ?_
  refine va_get (D := D) (ci := 1) (C := RX1) (T := TX1) (N := 4) hx hb hW inX1 hown hK hP 0 rfl rfl 0 (by decide) (hW _ (wa tw128 rfl)) (fun _ h9 => h9) rfl dX1_makeFactors_28 ?_
  refine va_getN (D := D) (host := "FieldAfterField") (ci := 5) (C := RX5) (T := TX5) (N := 13) hx hb hW inX5 hown hK hP 1 rfl rfl 7 (by decide) (va_Nw.use rfl (hNw _ tw85 rfl)) (fun _ h9 => h9) rfl dX1_makeFactors_31 ?_
  refine lv_aload_n hx hb dX1_makeFactors_34 rfl (lv_at hl 1 rfl) ?_
  refine lv_iconst (v := 1) hx hb dX1_makeFactors_35 (by decide) ?_
  refine xlald hx hb hK hP 4 rfl 1 (nI_lit 1) (by decide) (by decide) dX1_makeFactors_36 ?_
  refine lv_lmul hx hb dX1_makeFactors_37 ?_
  refine lv_ladd hx hb dX1_makeFactors_38 ?_
  refine lv_aload_n hx hb dX1_makeFactors_39 rfl (lv_at hl 2 rfl) ?_
  refine va_get (D := D) (ci := 1) (C := RX1) (T := TX1) (N := 4) hx hb hW inX1 hown hK hP 0 rfl rfl 0 (by decide) (hW _ (wa tw128 rfl)) (fun _ h9 => h9) rfl dX1_makeFactors_40 ?_
  refine va_getN (D := D) (host := "FieldAfterField") (ci := 5) (C := RX5) (T := TX5) (N := 13) hx hb hW inX5 hown hK hP 1 rfl rfl 8 (by decide) (va_Nw.use rfl (hNw _ tw87 rfl)) (fun _ h9 => h9) rfl dX1_makeFactors_43 ?_
  refine lv_aload_n hx hb dX1_makeFactors_46 rfl (lv_at hl 1 rfl) ?_
  refine lv_iconst (v := 2) hx hb dX1_makeFactors_47 (by decide) ?_
  refine xlald hx hb hK hP 4 rfl 2 (nI_lit 2) (by decide) (by decide) dX1_makeFactors_48 ?_
  refine lv_lmul hx hb dX1_makeFactors_49 ?_
  refine lv_ladd hx hb dX1_makeFactors_50 ?_
  refine xlast hx hb hK hP hD hS 7 rfl 0 (nI_lit 0) (by decide) (by decide) dX1_makeFactors_51 (fun H locs hP hD hS => ?_)
  have hP : va_P D vwCl [((af 0), .inr (1, [.ref (af 1), .ref (af 2), .ref (af 5), .int fm])), ((af 1), .inr (5, [.long (F 0 0), .long (F 0 1), .long (F 0 2), .long (F 0 3), .long (F 0 4), .long (F 0 5), .long (F 0 6), .long (F 0 7), .long (F 0 8), .long (F 0 9), .long (F 0 10), .long (F 0 11), .long (F 0 12)])), ((af 2), eJJ C 2 (rr af 3 2)), ((af 3), eJ C 4 (F 1)), ((af 4), eJ C 4 (F 2)), ((af 5), eJJ C 2 (rr af 6 2)), ((af 6), eJ C 3 (F 3)), ((af 7), eJ C 3 (vp_updL (F 4) 0 ((((F 0 6) * ((F 2) 0)) + ((F 0 7) * ((F 2) 1))) + ((F 0 8) * ((F 2) 2)))))] H := hP
  have hD : va_D A [((af 0), .inr (1, [.ref (af 1), .ref (af 2), .ref (af 5), .int fm])), ((af 1), .inr (5, [.long (F 0 0), .long (F 0 1), .long (F 0 2), .long (F 0 3), .long (F 0 4), .long (F 0 5), .long (F 0 6), .long (F 0 7), .long (F 0 8), .long (F 0 9), .long (F 0 10), .long (F 0 11), .long (F 0 12)])), ((af 2), eJJ C 2 (rr af 3 2)), ((af 3), eJ C 4 (F 1)), ((af 4), eJ C 4 (F 2)), ((af 5), eJJ C 2 (rr af 6 2)), ((af 6), eJ C 3 (F 3)), ((af 7), eJ C 3 (vp_updL (F 4) 0 ((((F 0 6) * ((F 2) 0)) + ((F 0 7) * ((F 2) 1))) + ((F 0 8) * ((F 2) 2)))))] := hD
  refine lv_aload_n hx hb dX1_makeFactors_52 rfl (lv_at hl 0 rfl) ?_
  refine lv_iconst (v := 1) hx hb dX1_makeFactors_53 (by decide) ?_
  refine lv_aload_n hx hb dX1_makeFactors_54 rfl (lv_at hl 2 rfl) ?_
  refine va_get (D := D) (ci := 1) (C := RX1) (T := TX1) (N := 4) hx hb hW inX1 hown hK hP 0 rfl rfl 0 (by decide) (hW _ (wa tw128 rfl)) (fun _ h9 => h9) rfl dX1_makeFactors_55 ?_
  refine va_getN (D := D) (host := "FieldAfterField") (ci := 5) (C := RX5) (T := TX5) (N := 13) hx hb hW inX5 hown hK hP 1 rfl rfl 7 (by decide) (va_Nw.use rfl (hNw _ tw85 rfl)) (fun _ h9 => h9) rfl dX1_makeFactors_58 ?_
  refine lv_aload_n hx hb dX1_makeFactors_61 rfl (lv_at hl 1 rfl) ?_
  refine lv_iconst (v := 0) hx hb dX1_makeFactors_62 (by decide) ?_
  refine xlald hx hb hK hP 4 rfl 0 (nI_lit 0) (by decide) (by decide) dX1_makeFactors_63 ?_
  refine lv_lmul hx hb dX1_makeFactors_64 ?_
  refine lv_aload_n hx hb dX1_makeFactors_65 rfl (lv_at hl 2 rfl) ?_
  refine va_get (D := D) (ci := 1) (C := RX1) (T := TX1) (N := 4) hx hb hW inX1 hown hK hP 0 rfl rfl 0 (by decide) (hW _ (wa tw128 rfl)) (fun _ h9 => h9) rfl dX1_makeFactors_66 ?_
  refine va_getN (D := D) (host := "FieldAfterField") (ci := 5) (C := RX5) (T := TX5) (N := 13) hx hb hW inX5 hown hK hP 1 rfl rfl 9 (by decide) (va_Nw.use rfl (hNw _ tw89 rfl)) (fun _ h9 => h9) rfl dX1_makeFactors_69 ?_
  refine lv_aload_n hx hb dX1_makeFactors_72 rfl (lv_at hl 1 rfl) ?_
  refine lv_iconst (v := 1) hx hb dX1_makeFactors_73 (by decide) ?_
  refine xlald hx hb hK hP 4 rfl 1 (nI_lit 1) (by decide) (by decide) dX1_makeFactors_74 ?_
  refine lv_lmul hx hb dX1_makeFactors_75 ?_
  refine lv_ladd hx hb dX1_makeFactors_76 ?_
  refine lv_aload_n hx hb dX1_makeFactors_77 rfl (lv_at hl 2 rfl) ?_
  refine va_get (D := D) (ci := 1) (C := RX1) (T := TX1) (N := 4) hx hb hW inX1 hown hK hP 0 rfl rfl 0 (by decide) (hW _ (wa tw128 rfl)) (fun _ h9 => h9) rfl dX1_makeFactors_78 ?_
  refine va_getN (D := D) (host := "FieldAfterField") (ci := 5) (C := RX5) (T := TX5) (N := 13) hx hb hW inX5 hown hK hP 1 rfl rfl 10 (by decide) (va_Nw.use rfl (hNw _ tw91 rfl)) (fun _ h9 => h9) rfl dX1_makeFactors_81 ?_
  refine lv_aload_n hx hb dX1_makeFactors_84 rfl (lv_at hl 1 rfl) ?_
  refine lv_iconst (v := 2) hx hb dX1_makeFactors_85 (by decide) ?_
  refine xlald hx hb hK hP 4 rfl 2 (nI_lit 2) (by decide) (by decide) dX1_makeFactors_86 ?_
  refine lv_lmul hx hb dX1_makeFactors_87 ?_
  refine lv_ladd hx hb dX1_makeFactors_88 ?_
  refine xlast hx hb hK hP hD hS 7 rfl 1 (nI_lit 1) (by decide) (by decide) dX1_makeFactors_89 (fun H locs hP hD hS => ?_)
  have hP : va_P D vwCl [((af 0), .inr (1, [.ref (af 1), .ref (af 2), .ref (af 5), .int fm])), ((af 1), .inr (5, [.long (F 0 0), .long (F 0 1), .long (F 0 2), .long (F 0 3), .long (F 0 4), .long (F 0 5), .long (F 0 6), .long (F 0 7), .long (F 0 8), .long (F 0 9), .long (F 0 10), .long (F 0 11), .long (F 0 12)])), ((af 2), eJJ C 2 (rr af 3 2)), ((af 3), eJ C 4 (F 1)), ((af 4), eJ C 4 (F 2)), ((af 5), eJJ C 2 (rr af 6 2)), ((af 6), eJ C 3 (F 3)), ((af 7), eJ C 3 (vp_updL (vp_updL (F 4) 0 ((((F 0 6) * ((F 2) 0)) + ((F 0 7) * ((F 2) 1))) + ((F 0 8) * ((F 2) 2)))) 1 ((((F 0 7) * ((F 2) 0)) + ((F 0 9) * ((F 2) 1))) + ((F 0 10) * ((F 2) 2)))))] H := hP
  have hD : va_D A [((af 0), .inr (1, [.ref (af 1), .ref (af 2), .ref (af 5), .int fm])), ((af 1), .inr (5, [.long (F 0 0), .long (F 0 1), .long (F 0 2), .long (F 0 3), .long (F 0 4), .long (F 0 5), .long (F 0 6), .long (F 0 7), .long (F 0 8), .long (F 0 9), .long (F 0 10), .long (F 0 11), .long (F 0 12)])), ((af 2), eJJ C 2 (rr af 3 2)), ((af 3), eJ C 4 (F 1)), ((af 4), eJ C 4 (F 2)), ((af 5), eJJ C 2 (rr af 6 2)), ((af 6), eJ C 3 (F 3)), ((af 7), eJ C 3 (vp_updL (vp_updL (F 4) 0 ((((F 0 6) * ((F 2) 0)) + ((F 0 7) * ((F 2) 1))) + ((F 0 8) * ((F 2) 2)))) 1 ((((F 0 7) * ((F 2) 0)) + ((F 0 9) * ((F 2) 1))) + ((F 0 10) * ((F 2) 2)))))] := hD
  refine lv_aload_n hx hb dX1_makeFactors_90 rfl (lv_at hl 0 rfl) ?_
  refine lv_iconst (v := 2) hx hb dX1_makeFactors_91 (by decide) ?_
  refine lv_aload_n hx hb dX1_makeFactors_92 rfl (lv_at hl 2 rfl) ?_
  refine va_get (D := D) (ci := 1) (C := RX1) (T := TX1) (N := 4) hx hb hW inX1 hown hK hP 0 rfl rfl 0 (by decide) (hW _ (wa tw128 rfl)) (fun _ h9 => h9) rfl dX1_makeFactors_93 ?_
  refine va_getN (D := D) (host := "FieldAfterField") (ci := 5) (C := RX5) (T := TX5) (N := 13) hx hb hW inX5 hown hK hP 1 rfl rfl 8 (by decide) (va_Nw.use rfl (hNw _ tw87 rfl)) (fun _ h9 => h9) rfl dX1_makeFactors_96 ?_
  refine lv_aload_n hx hb dX1_makeFactors_99 rfl (lv_at hl 1 rfl) ?_
  refine lv_iconst (v := 0) hx hb dX1_makeFactors_100 (by decide) ?_
  refine xlald hx hb hK hP 4 rfl 0 (nI_lit 0) (by decide) (by decide) dX1_makeFactors_101 ?_
  refine lv_lmul hx hb dX1_makeFactors_102 ?_
  refine lv_aload_n hx hb dX1_makeFactors_103 rfl (lv_at hl 2 rfl) ?_
  refine va_get (D := D) (ci := 1) (C := RX1) (T := TX1) (N := 4) hx hb hW inX1 hown hK hP 0 rfl rfl 0 (by decide) (hW _ (wa tw128 rfl)) (fun _ h9 => h9) rfl dX1_makeFactors_104 ?_
  refine va_getN (D := D) (host := "FieldAfterField") (ci := 5) (C := RX5) (T := TX5) (N := 13) hx hb hW inX5 hown hK hP 1 rfl rfl 10 (by decide) (va_Nw.use rfl (hNw _ tw91 rfl)) (fun _ h9 => h9) rfl dX1_makeFactors_107 ?_
  refine lv_aload_n hx hb dX1_makeFactors_110 rfl (lv_at hl 1 rfl) ?_
  refine lv_iconst (v := 1) hx hb dX1_makeFactors_111 (by decide) ?_
  refine xlald hx hb hK hP 4 rfl 1 (nI_lit 1) (by decide) (by decide) dX1_makeFactors_112 ?_
  refine lv_lmul hx hb dX1_makeFactors_113 ?_
  refine lv_ladd hx hb dX1_makeFactors_114 ?_
  refine lv_aload_n hx hb dX1_makeFactors_115 rfl (lv_at hl 2 rfl) ?_
  refine va_get (D := D) (ci := 1) (C := RX1) (T := TX1) (N := 4) hx hb hW inX1 hown hK hP 0 rfl rfl 0 (by decide) (hW _ (wa tw128 rfl)) (fun _ h9 => h9) rfl dX1_makeFactors_116 ?_
  refine va_getN (D := D) (host := "FieldAfterField") (ci := 5) (C := RX5) (T := TX5) (N := 13) hx hb hW inX5 hown hK hP 1 rfl rfl 11 (by decide) (va_Nw.use rfl (hNw _ tw93 rfl)) (fun _ h9 => h9) rfl dX1_makeFactors_119 ?_
  refine lv_aload_n hx hb dX1_makeFactors_122 rfl (lv_at hl 1 rfl) ?_
  refine lv_iconst (v := 2) hx hb dX1_makeFactors_123 (by decide) ?_
  refine xlald hx hb hK hP 4 rfl 2 (nI_lit 2) (by decide) (by decide) dX1_makeFactors_124 ?_
  refine lv_lmul hx hb dX1_makeFactors_125 ?_
  refine lv_ladd hx hb dX1_makeFactors_126 ?_
  refine xlast hx hb hK hP hD hS 7 rfl 2 (nI_lit 2) (by decide) (by decide) dX1_makeFactors_127 (fun H locs hP hD hS => ?_)
  have hP : va_P D vwCl [((af 0), .inr (1, [.ref (af 1), .ref (af 2), .ref (af 5), .int fm])), ((af 1), .inr (5, [.long (F 0 0), .long (F 0 1), .long (F 0 2), .long (F 0 3), .long (F 0 4), .long (F 0 5), .long (F 0 6), .long (F 0 7), .long (F 0 8), .long (F 0 9), .long (F 0 10), .long (F 0 11), .long (F 0 12)])), ((af 2), eJJ C 2 (rr af 3 2)), ((af 3), eJ C 4 (F 1)), ((af 4), eJ C 4 (F 2)), ((af 5), eJJ C 2 (rr af 6 2)), ((af 6), eJ C 3 (F 3)), ((af 7), eJ C 3 (vp_updL (vp_updL (vp_updL (F 4) 0 ((((F 0 6) * ((F 2) 0)) + ((F 0 7) * ((F 2) 1))) + ((F 0 8) * ((F 2) 2)))) 1 ((((F 0 7) * ((F 2) 0)) + ((F 0 9) * ((F 2) 1))) + ((F 0 10) * ((F 2) 2)))) 2 ((((F 0 8) * ((F 2) 0)) + ((F 0 10) * ((F 2) 1))) + ((F 0 11) * ((F 2) 2)))))] H := hP
  have hD : va_D A [((af 0), .inr (1, [.ref (af 1), .ref (af 2), .ref (af 5), .int fm])), ((af 1), .inr (5, [.long (F 0 0), .long (F 0 1), .long (F 0 2), .long (F 0 3), .long (F 0 4), .long (F 0 5), .long (F 0 6), .long (F 0 7), .long (F 0 8), .long (F 0 9), .long (F 0 10), .long (F 0 11), .long (F 0 12)])), ((af 2), eJJ C 2 (rr af 3 2)), ((af 3), eJ C 4 (F 1)), ((af 4), eJ C 4 (F 2)), ((af 5), eJJ C 2 (rr af 6 2)), ((af 6), eJ C 3 (F 3)), ((af 7), eJ C 3 (vp_updL (vp_updL (vp_updL (F 4) 0 ((((F 0 6) * ((F 2) 0)) + ((F 0 7) * ((F 2) 1))) + ((F 0 8) * ((F 2) 2)))) 1 ((((F 0 7) * ((F 2) 0)) + ((F 0 9) * ((F 2) 1))) + ((F 0 10) * ((F 2) 2)))) 2 ((((F 0 8) * ((F 2) 0)) + ((F 0 10) * ((F 2) 1))) + ((F 0 11) * ((F 2) 2)))))] := hD
  have hP9 : va_P D vwCl ((wF af C (uM F 4 (f1_fac (F 0) (F 2) (F 4))) fm)) H := hP
  have hD9 : va_D A ((wF af C (uM F 4 (f1_fac (F 0) (F 2) (F 4))) fm)) := hD
  exact W.vret hx hb hr (fun t ht _ => ⟨⟨(), rfl, trivial, ⟨by rw [ht]; exact hP9, by rw [hAe]; exact hD9⟩⟩, hS.F ht⟩) hS.2.2 dX1_makeFactors_128

def mkT (M : Nat → Nat → Int32) (model set : Int32) : Nat → Nat → (Nat → Int64) → Nat → Int64
  | 0, _, T => T
  | n + 1, k, T => mkT M model set n (k + 1) (if f6_isIn set (nI k) = 0 then T else f5_add_T T (f2_second M model k).toInt64 (f2_third M model k).toInt64 1)
def fitT (M : Nat → Nat → Int32) (model set : Int32) (N : Nat) (T : Nat → Int64) : Nat → Int64 := f5_turn_T (mkT M model set N 0 (f5_clear_T T model))
def fB0 (M : Nat → Nat → Int32) (N : Nat) (model set : Int32) (F : Nat → Nat → Int64) : Nat → Nat → Int64 := uM F 0 (fitT M model set N (F 0))
def fB1 (M : Nat → Nat → Int32) (N : Nat) (model set : Int32) (F : Nat → Nat → Int64) : Nat → Nat → Int64 := uM (fB0 M N model set F) 1 (f1_sums (M 4) M model set N (fB0 M N model set F 1))
def fB2 (M : Nat → Nat → Int32) (N : Nat) (model set : Int32) (F : Nat → Nat → Int64) : Nat → Nat → Int64 := uM (fB1 M N model set F) 3 (f1_fac (fB1 M N model set F 0) (fB1 M N model set F 1) (fB1 M N model set F 3))
def fB3 (M : Nat → Nat → Int32) (N : Nat) (model set : Int32) (F : Nat → Nat → Int64) : Nat → Nat → Int64 := uM (fB2 M N model set F) 2 (f1_sums (M 5) M model set N (fB2 M N model set F 2))
def f1_make (M : Nat → Nat → Int32) (N : Nat) (model set : Int32) (F : Nat → Nat → Int64) : Nat → Nat → Int64 := uM (fB3 M N model set F) 4 (f1_fac (fB3 M N model set F 0) (fB3 M N model set F 2) (fB3 M N model set F 4))
def f1_ok (F : Nat → Nat → Int64) : Int32 := if F 0 12 = 0 then 0 else 1

set_option maxHeartbeats 4000000 in
set_option maxRecDepth 100000 in
theorem kX1_make (l : Launch) (D : va_G) (C : Nat → ClassId) (af : Nat → Nat) (F : Nat → Nat → Int64) (fm : Int32) (am : Nat → Nat) (M : Nat → Nat → Int32) (model set : Int32) (sz : Nat) (N : Nat) (hN : M 6 0 = nI N) (hN12 : N ≤ 12) : Wi l D C yX1_make cX1_make 5 .boolean 2 [.ref (af 0), .ref (am 0), .int model, .int set] ((wF af C F fm) ++ (wM am C M)) (((wF af C (f1_make M N model set F) model) ++ (wM am C M))) (f1_ok (f1_make M N model set F)) sz := by
  refine Met.ofW (cc := cX1_make) (maxL := 5) (ret := (some .boolean)) (by decide) rfl ?_
  intro p e s m args below meth c s₁ B hml hv
  obtain ⟨rfl, hsz, hP, hK, hNw, hD0⟩ := hv
  have hx := B.exec
  have hb := B.bytes
  have hr := B.returns
  have hts := atoms_spec (ws := wm yX1_make cX1_make 5 (some .boolean)) B.pre
  have hown : s.vm.findClass RX1 = some m.cls := findClass_of_methodNamed B.named
  have hlocks := B.notSynchronized
  have hW : ∀ w ∈ WA, w.before _ s = true := fun w h => hts w (List.mem_cons_of_mem _ h)
  subst hsz
  have hD := hD0.self (sz := s.heap.size)
  generalize hAe : va_A ((wF af C F fm) ++ (wM am C M)) s.heap.size = A at hD ⊢
  have hA : ∀ q : Nat, s.heap.size ≤ q → A q := fun q h => by rw [← hAe]; exact Or.inr h
  have hS : va_S A s.heap s.heap [] := va_S.rf
  have hP : va_P D vwCl [((af 0), .inr (1, [.ref (af 1), .ref (af 2), .ref (af 5), .int fm])), ((af 1), .inr (5, [.long (F 0 0), .long (F 0 1), .long (F 0 2), .long (F 0 3), .long (F 0 4), .long (F 0 5), .long (F 0 6), .long (F 0 7), .long (F 0 8), .long (F 0 9), .long (F 0 10), .long (F 0 11), .long (F 0 12)])), ((af 2), eJJ C 2 (rr af 3 2)), ((af 3), eJ C 4 (F 1)), ((af 4), eJ C 4 (F 2)), ((af 5), eJJ C 2 (rr af 6 2)), ((af 6), eJ C 3 (F 3)), ((af 7), eJ C 3 (F 4)), ((am 0), .inr (2, [.ref (am 1), .ref (am 2), .ref (am 3), .ref (am 4), .ref (am 5), .int (M 6 0), .int (M 6 1), .int (M 6 2)])), ((am 1), eI C 12 (M 0)), ((am 2), eI C 12 (M 1)), ((am 3), eI C 12 (M 2)), ((am 4), eI C 12 (M 3)), ((am 5), eII C 2 (rr am 6 2)), ((am 6), eI C 12 (M 4)), ((am 7), eI C 12 (M 5))] s.heap := hP
  have hD : va_D A [((af 0), .inr (1, [.ref (af 1), .ref (af 2), .ref (af 5), .int fm])), ((af 1), .inr (5, [.long (F 0 0), .long (F 0 1), .long (F 0 2), .long (F 0 3), .long (F 0 4), .long (F 0 5), .long (F 0 6), .long (F 0 7), .long (F 0 8), .long (F 0 9), .long (F 0 10), .long (F 0 11), .long (F 0 12)])), ((af 2), eJJ C 2 (rr af 3 2)), ((af 3), eJ C 4 (F 1)), ((af 4), eJ C 4 (F 2)), ((af 5), eJJ C 2 (rr af 6 2)), ((af 6), eJ C 3 (F 3)), ((af 7), eJ C 3 (F 4)), ((am 0), .inr (2, [.ref (am 1), .ref (am 2), .ref (am 3), .ref (am 4), .ref (am 5), .int (M 6 0), .int (M 6 1), .int (M 6 2)])), ((am 1), eI C 12 (M 0)), ((am 2), eI C 12 (M 1)), ((am 3), eI C 12 (M 2)), ((am 4), eI C 12 (M 3)), ((am 5), eII C 2 (rr am 6 2)), ((am 6), eI C 12 (M 4)), ((am 7), eI C 12 (M 5))] := hD
  have hl := lv_entry ([.ref (af 0), .ref (am 0), .int model, .int set]) (n := 5) (Nat.le_of_ble_eq_true rfl)
  rw [lg_entry_eq]
  generalize (lg_sl ([.ref (af 0), .ref (am 0), .int model, .int set]) ++ List.replicate (5 - (lg_sl ([.ref (af 0), .ref (am 0), .int model, .int set])).length) Slot.unset).toArray = ls at hl ⊢
  have hl : lv_has ls 5 [(0, .ref (af 0)), (1, .ref (am 0)), (2, .int model), (3, .int set)] := hl
  refine lv_aload_n hx hb dX1_make_0 rfl (lv_at hl 0 rfl) ?_
  refine lv_iload_n hx hb dX1_make_1 rfl (lv_at hl 2 rfl) ?_
  refine va_put (D := D) (v := .int model) (ty := .int) (ci := 1) (C := RX1) (T := TX1) (N := 4) hx hb hW inX1 tyX1 tyX1_ok nmX1 hown hK hP hD hS 0 rfl rfl 3 (by decide) (hW _ (wa tw133 rfl)) (fun _ h9 => h9) rfl (by decide +kernel) rfl rfl (Nat.le_of_ble_eq_true rfl) dX1_make_2 (fun H locs hP hD hS => ?_)
  have hP : va_P D vwCl [((af 0), .inr (1, [.ref (af 1), .ref (af 2), .ref (af 5), .int model])), ((af 1), .inr (5, [.long (F 0 0), .long (F 0 1), .long (F 0 2), .long (F 0 3), .long (F 0 4), .long (F 0 5), .long (F 0 6), .long (F 0 7), .long (F 0 8), .long (F 0 9), .long (F 0 10), .long (F 0 11), .long (F 0 12)])), ((af 2), eJJ C 2 (rr af 3 2)), ((af 3), eJ C 4 (F 1)), ((af 4), eJ C 4 (F 2)), ((af 5), eJJ C 2 (rr af 6 2)), ((af 6), eJ C 3 (F 3)), ((af 7), eJ C 3 (F 4)), ((am 0), .inr (2, [.ref (am 1), .ref (am 2), .ref (am 3), .ref (am 4), .ref (am 5), .int (M 6 0), .int (M 6 1), .int (M 6 2)])), ((am 1), eI C 12 (M 0)), ((am 2), eI C 12 (M 1)), ((am 3), eI C 12 (M 2)), ((am 4), eI C 12 (M 3)), ((am 5), eII C 2 (rr am 6 2)), ((am 6), eI C 12 (M 4)), ((am 7), eI C 12 (M 5))] H := hP
  have hD : va_D A [((af 0), .inr (1, [.ref (af 1), .ref (af 2), .ref (af 5), .int model])), ((af 1), .inr (5, [.long (F 0 0), .long (F 0 1), .long (F 0 2), .long (F 0 3), .long (F 0 4), .long (F 0 5), .long (F 0 6), .long (F 0 7), .long (F 0 8), .long (F 0 9), .long (F 0 10), .long (F 0 11), .long (F 0 12)])), ((af 2), eJJ C 2 (rr af 3 2)), ((af 3), eJ C 4 (F 1)), ((af 4), eJ C 4 (F 2)), ((af 5), eJJ C 2 (rr af 6 2)), ((af 6), eJ C 3 (F 3)), ((af 7), eJ C 3 (F 4)), ((am 0), .inr (2, [.ref (am 1), .ref (am 2), .ref (am 3), .ref (am 4), .ref (am 5), .int (M 6 0), .int (M 6 1), .int (M 6 2)])), ((am 1), eI C 12 (M 0)), ((am 2), eI C 12 (M 1)), ((am 3), eI C 12 (M 2)), ((am 4), eI C 12 (M 3)), ((am 5), eII C 2 (rr am 6 2)), ((am 6), eI C 12 (M 4)), ((am 7), eI C 12 (M 5))] := hD
  refine lv_aload_n hx hb dX1_make_5 rfl (lv_at hl 0 rfl) ?_
  refine va_get (D := D) (ci := 1) (C := RX1) (T := TX1) (N := 4) hx hb hW inX1 hown hK hP 0 rfl rfl 0 (by decide) (hW _ (wa tw128 rfl)) (fun _ h9 => h9) rfl dX1_make_6 ?_
  refine lv_aload_n hx hb dX1_make_9 rfl (lv_at hl 0 rfl) ?_
  refine va_get (D := D) (ci := 1) (C := RX1) (T := TX1) (N := 4) hx hb hW inX1 hown hK hP 0 rfl rfl 3 (by decide) (hW _ (wa tw133 rfl)) (fun _ h9 => h9) rfl dX1_make_10 ?_
  refine xwv (wr := [((af 0), .inr (1, [.ref (af 1), .ref (af 2), .ref (af 5), .int model])), ((af 2), eJJ C 2 (rr af 3 2)), ((af 3), eJ C 4 (F 1)), ((af 4), eJ C 4 (F 2)), ((af 5), eJJ C 2 (rr af 6 2)), ((af 6), eJ C 3 (F 3)), ((af 7), eJ C 3 (F 4)), ((am 0), .inr (2, [.ref (am 1), .ref (am 2), .ref (am 3), .ref (am 4), .ref (am 5), .int (M 6 0), .int (M 6 1), .int (M 6 2)])), ((am 1), eI C 12 (M 0)), ((am 2), eI C 12 (M 1)), ((am 3), eI C 12 (M 2)), ((am 4), eI C 12 (M 3)), ((am 5), eII C 2 (rr am 6 2)), ((am 6), eI C 12 (M 4)), ((am 7), eI C 12 (M 5))]) (rVN (As := [.int model]) (n := 1) (rest := []) ⟨hx, hb, hml, hown, hW⟩ (kX5_clear l D C (af 1) (F 0) model H.size) (wa tw338 rfl) (hNw _ tw335 rfl) (wa tw337 rfl) (was ts10 rfl) (wa tw4 rfl) (by decide +kernel) ⟨Nat.le_of_ble_eq_true rfl, Nat.le_of_ble_eq_true rfl⟩ (pVw (hP.sub [1] rfl) (hD.sub [1] (by decide) rfl) hK hNw 0 rfl rfl) hl.1 rfl (Nat.le_of_ble_eq_true rfl) dX1_make_13 ⟨Nat.le_of_ble_eq_true rfl, Nat.le_of_ble_eq_true rfl⟩ rfl rfl rfl) hP hD hS hA [1] [0, 2, 3, 4, 5, 6, 7, 8, 9, 10, 11, 12, 13, 14, 15] rfl rfl (by decide) (by decide) (fun H locs hP hD hS => ?_)
  have hP : va_P D vwCl [((af 0), .inr (1, [.ref (af 1), .ref (af 2), .ref (af 5), .int model])), ((af 2), eJJ C 2 (rr af 3 2)), ((af 3), eJ C 4 (F 1)), ((af 4), eJ C 4 (F 2)), ((af 5), eJJ C 2 (rr af 6 2)), ((af 6), eJ C 3 (F 3)), ((af 7), eJ C 3 (F 4)), ((am 0), .inr (2, [.ref (am 1), .ref (am 2), .ref (am 3), .ref (am 4), .ref (am 5), .int (M 6 0), .int (M 6 1), .int (M 6 2)])), ((am 1), eI C 12 (M 0)), ((am 2), eI C 12 (M 1)), ((am 3), eI C 12 (M 2)), ((am 4), eI C 12 (M 3)), ((am 5), eII C 2 (rr am 6 2)), ((am 6), eI C 12 (M 4)), ((am 7), eI C 12 (M 5)), ((af 1), .inr (5, [.long ((f5_clear_T (F 0) model) 0), .long ((f5_clear_T (F 0) model) 1), .long ((f5_clear_T (F 0) model) 2), .long ((f5_clear_T (F 0) model) 3), .long ((f5_clear_T (F 0) model) 4), .long ((f5_clear_T (F 0) model) 5), .long ((f5_clear_T (F 0) model) 6), .long ((f5_clear_T (F 0) model) 7), .long ((f5_clear_T (F 0) model) 8), .long ((f5_clear_T (F 0) model) 9), .long ((f5_clear_T (F 0) model) 10), .long ((f5_clear_T (F 0) model) 11), .long ((f5_clear_T (F 0) model) 12)]))] H := hP
  have hD : va_D A [((af 0), .inr (1, [.ref (af 1), .ref (af 2), .ref (af 5), .int model])), ((af 2), eJJ C 2 (rr af 3 2)), ((af 3), eJ C 4 (F 1)), ((af 4), eJ C 4 (F 2)), ((af 5), eJJ C 2 (rr af 6 2)), ((af 6), eJ C 3 (F 3)), ((af 7), eJ C 3 (F 4)), ((am 0), .inr (2, [.ref (am 1), .ref (am 2), .ref (am 3), .ref (am 4), .ref (am 5), .int (M 6 0), .int (M 6 1), .int (M 6 2)])), ((am 1), eI C 12 (M 0)), ((am 2), eI C 12 (M 1)), ((am 3), eI C 12 (M 2)), ((am 4), eI C 12 (M 3)), ((am 5), eII C 2 (rr am 6 2)), ((am 6), eI C 12 (M 4)), ((am 7), eI C 12 (M 5)), ((af 1), .inr (5, [.long ((f5_clear_T (F 0) model) 0), .long ((f5_clear_T (F 0) model) 1), .long ((f5_clear_T (F 0) model) 2), .long ((f5_clear_T (F 0) model) 3), .long ((f5_clear_T (F 0) model) 4), .long ((f5_clear_T (F 0) model) 5), .long ((f5_clear_T (F 0) model) 6), .long ((f5_clear_T (F 0) model) 7), .long ((f5_clear_T (F 0) model) 8), .long ((f5_clear_T (F 0) model) 9), .long ((f5_clear_T (F 0) model) 10), .long ((f5_clear_T (F 0) model) 11), .long ((f5_clear_T (F 0) model) 12)]))] := hD
  refine lv_iconst (v := 0) hx hb dX1_make_16 (by decide) ?_
  refine lv_istore (lv' := [(4, .int 0), (0, .ref (af 0)), (1, .ref (am 0)), (2, .int model), (3, .int set)]) hx hb dX1_make_17 hl (by decide) rfl (fun ls hl => ?_)
  refine xgen hP hS (fun H locs hP hS => ?_)
  obtain ⟨n19, k, T1, hinv⟩ : ∃ (n19 : Nat) (k : Nat) (T1 : Nat → Int64), (k + n19 = N) ∧ (mkT M model set n19 k T1 = mkT M model set N 0 (f5_clear_T (F 0) model)) ∧ lv_has ls 5 [(0, .ref (af 0)), (1, .ref (am 0)), (2, .int model), (3, .int set), (4, .int (nI k))] ∧ va_P D vwCl [((af 0), .inr (1, [.ref (af 1), .ref (af 2), .ref (af 5), .int model])), ((af 2), eJJ C 2 (rr af 3 2)), ((af 3), eJ C 4 (F 1)), ((af 4), eJ C 4 (F 2)), ((af 5), eJJ C 2 (rr af 6 2)), ((af 6), eJ C 3 (F 3)), ((af 7), eJ C 3 (F 4)), ((am 0), .inr (2, [.ref (am 1), .ref (am 2), .ref (am 3), .ref (am 4), .ref (am 5), .int (M 6 0), .int (M 6 1), .int (M 6 2)])), ((am 1), eI C 12 (M 0)), ((am 2), eI C 12 (M 1)), ((am 3), eI C 12 (M 2)), ((am 4), eI C 12 (M 3)), ((am 5), eII C 2 (rr am 6 2)), ((am 6), eI C 12 (M 4)), ((am 7), eI C 12 (M 5)), ((af 1), .inr (5, [.long (T1 0), .long (T1 1), .long (T1 2), .long (T1 3), .long (T1 4), .long (T1 5), .long (T1 6), .long (T1 7), .long (T1 8), .long (T1 9), .long (T1 10), .long (T1 11), .long (T1 12)]))] H ∧ va_D A [((af 0), .inr (1, [.ref (af 1), .ref (af 2), .ref (af 5), .int model])), ((af 2), eJJ C 2 (rr af 3 2)), ((af 3), eJ C 4 (F 1)), ((af 4), eJ C 4 (F 2)), ((af 5), eJJ C 2 (rr af 6 2)), ((af 6), eJ C 3 (F 3)), ((af 7), eJ C 3 (F 4)), ((am 0), .inr (2, [.ref (am 1), .ref (am 2), .ref (am 3), .ref (am 4), .ref (am 5), .int (M 6 0), .int (M 6 1), .int (M 6 2)])), ((am 1), eI C 12 (M 0)), ((am 2), eI C 12 (M 1)), ((am 3), eI C 12 (M 2)), ((am 4), eI C 12 (M 3)), ((am 5), eII C 2 (rr am 6 2)), ((am 6), eI C 12 (M 4)), ((am 7), eI C 12 (M 5)), ((af 1), .inr (5, [.long (T1 0), .long (T1 1), .long (T1 2), .long (T1 3), .long (T1 4), .long (T1 5), .long (T1 6), .long (T1 7), .long (T1 8), .long (T1 9), .long (T1 10), .long (T1 11), .long (T1 12)]))] ∧ va_S A s.heap H locs := ⟨N, 0, (f5_clear_T (F 0) model), by omega, rfl, lv_sub hl [1, 2, 3, 4, 0] rfl, hP, hD, hS⟩
  clear hl hP hD hS
  induction n19 generalizing k T1 ls H locs with
  | zero =>
    obtain ⟨h19_0, h19_1, hl, hP, hD, hS⟩ := hinv
    refine lv_iload hx hb dX1_make_19 (lv_at hl 4 rfl) ?_
    refine lv_aload_n hx hb dX1_make_21 rfl (lv_at hl 1 rfl) ?_
    refine va_getN (D := D) (host := "FieldAfterField") (ci := 2) (C := RX2) (T := TX2) (N := 8) hx hb hW inX2 hown hK hP 7 rfl rfl 5 (by decide) (va_Nw.use rfl (hNw _ tw40 rfl)) (fun _ h9 => h9) rfl dX1_make_22 ?_
    refine lv_icmp_ge (tgt := 73) hx hb dX1_make_25 (by decide) (fun c_1 => ?_) (fun c_1 => ?_)
    · have e_T1 : T1 = mkT M model set N 0 (f5_clear_T (F 0) model) := h19_1
      subst e_T1
      refine lv_aload_n hx hb dX1_make_73 rfl (lv_at hl 0 rfl) ?_
      refine va_get (D := D) (ci := 1) (C := RX1) (T := TX1) (N := 4) hx hb hW inX1 hown hK hP 0 rfl rfl 0 (by decide) (hW _ (wa tw128 rfl)) (fun _ h9 => h9) rfl dX1_make_74 ?_
      refine xwv (wr := [((af 0), .inr (1, [.ref (af 1), .ref (af 2), .ref (af 5), .int model])), ((af 2), eJJ C 2 (rr af 3 2)), ((af 3), eJ C 4 (F 1)), ((af 4), eJ C 4 (F 2)), ((af 5), eJJ C 2 (rr af 6 2)), ((af 6), eJ C 3 (F 3)), ((af 7), eJ C 3 (F 4)), ((am 0), .inr (2, [.ref (am 1), .ref (am 2), .ref (am 3), .ref (am 4), .ref (am 5), .int (M 6 0), .int (M 6 1), .int (M 6 2)])), ((am 1), eI C 12 (M 0)), ((am 2), eI C 12 (M 1)), ((am 3), eI C 12 (M 2)), ((am 4), eI C 12 (M 3)), ((am 5), eII C 2 (rr am 6 2)), ((am 6), eI C 12 (M 4)), ((am 7), eI C 12 (M 5))]) (rVN (As := []) (n := 0) (rest := []) ⟨hx, hb, hml, hown, hW⟩ (kX5_turnBack l D C (af 1) (mkT M model set N 0 (f5_clear_T (F 0) model))  H.size) (wa tw355 rfl) (hNw _ tw352 rfl) (wa tw354 rfl) (was ts14 rfl) (wa tw4 rfl) (by decide +kernel) ⟨Nat.le_of_ble_eq_true rfl, Nat.le_of_ble_eq_true rfl⟩ (pVw (hP.sub [15] rfl) (hD.sub [15] (by decide) rfl) hK hNw 0 rfl rfl) hl.1 rfl (Nat.le_of_ble_eq_true rfl) dX1_make_77 ⟨Nat.le_of_ble_eq_true rfl, Nat.le_of_ble_eq_true rfl⟩ rfl rfl rfl) hP hD hS hA [15] [0, 1, 2, 3, 4, 5, 6, 7, 8, 9, 10, 11, 12, 13, 14] rfl rfl (by decide) (by decide) (fun H locs hP hD hS => ?_)
      have hP : va_P D vwCl [((af 0), .inr (1, [.ref (af 1), .ref (af 2), .ref (af 5), .int model])), ((af 2), eJJ C 2 (rr af 3 2)), ((af 3), eJ C 4 (F 1)), ((af 4), eJ C 4 (F 2)), ((af 5), eJJ C 2 (rr af 6 2)), ((af 6), eJ C 3 (F 3)), ((af 7), eJ C 3 (F 4)), ((am 0), .inr (2, [.ref (am 1), .ref (am 2), .ref (am 3), .ref (am 4), .ref (am 5), .int (M 6 0), .int (M 6 1), .int (M 6 2)])), ((am 1), eI C 12 (M 0)), ((am 2), eI C 12 (M 1)), ((am 3), eI C 12 (M 2)), ((am 4), eI C 12 (M 3)), ((am 5), eII C 2 (rr am 6 2)), ((am 6), eI C 12 (M 4)), ((am 7), eI C 12 (M 5)), ((af 1), .inr (5, [.long ((fitT M model set N (F 0)) 0), .long ((fitT M model set N (F 0)) 1), .long ((fitT M model set N (F 0)) 2), .long ((fitT M model set N (F 0)) 3), .long ((fitT M model set N (F 0)) 4), .long ((fitT M model set N (F 0)) 5), .long ((fitT M model set N (F 0)) 6), .long ((fitT M model set N (F 0)) 7), .long ((fitT M model set N (F 0)) 8), .long ((fitT M model set N (F 0)) 9), .long ((fitT M model set N (F 0)) 10), .long ((fitT M model set N (F 0)) 11), .long ((fitT M model set N (F 0)) 12)]))] H := hP
      have hD : va_D A [((af 0), .inr (1, [.ref (af 1), .ref (af 2), .ref (af 5), .int model])), ((af 2), eJJ C 2 (rr af 3 2)), ((af 3), eJ C 4 (F 1)), ((af 4), eJ C 4 (F 2)), ((af 5), eJJ C 2 (rr af 6 2)), ((af 6), eJ C 3 (F 3)), ((af 7), eJ C 3 (F 4)), ((am 0), .inr (2, [.ref (am 1), .ref (am 2), .ref (am 3), .ref (am 4), .ref (am 5), .int (M 6 0), .int (M 6 1), .int (M 6 2)])), ((am 1), eI C 12 (M 0)), ((am 2), eI C 12 (M 1)), ((am 3), eI C 12 (M 2)), ((am 4), eI C 12 (M 3)), ((am 5), eII C 2 (rr am 6 2)), ((am 6), eI C 12 (M 4)), ((am 7), eI C 12 (M 5)), ((af 1), .inr (5, [.long ((fitT M model set N (F 0)) 0), .long ((fitT M model set N (F 0)) 1), .long ((fitT M model set N (F 0)) 2), .long ((fitT M model set N (F 0)) 3), .long ((fitT M model set N (F 0)) 4), .long ((fitT M model set N (F 0)) 5), .long ((fitT M model set N (F 0)) 6), .long ((fitT M model set N (F 0)) 7), .long ((fitT M model set N (F 0)) 8), .long ((fitT M model set N (F 0)) 9), .long ((fitT M model set N (F 0)) 10), .long ((fitT M model set N (F 0)) 11), .long ((fitT M model set N (F 0)) 12)]))] := hD
      refine lv_iconst (v := 0) hx hb dX1_make_80 (by decide) ?_
      refine lv_istore (lv' := [(4, .int 0), (0, .ref (af 0)), (1, .ref (am 0)), (2, .int model), (3, .int set)]) hx hb dX1_make_81 hl (by decide) rfl (fun ls hl => ?_)
      refine lv_iload hx hb dX1_make_83 (lv_at hl 0 rfl) ?_
      refine lv_iconst (v := 2) hx hb dX1_make_85 (by decide) ?_
      refine lv_icmp_ge (tgt := 109) hx hb dX1_make_86 (by decide) (fun c_2 => ?_) (fun c_2 => ?_)
      · exact absurd c_2 (by decide)
      · refine lv_aload_n hx hb dX1_make_89 rfl (lv_at hl 1 rfl) ?_
        refine lv_aload_n hx hb dX1_make_90 rfl (lv_at hl 2 rfl) ?_
        refine lv_iload hx hb dX1_make_91 (lv_at hl 0 rfl) ?_
        refine lv_iload_n hx hb dX1_make_93 rfl (lv_at hl 4 rfl) ?_
        refine xwv (wr := []) (rV (As := [.ref (am 0), .int 0, .int set]) (n := 3) (rest := []) ⟨hx, hb, hml, hown, hW⟩ (kX1_makeSums_0 l D C af (uM F 0 (fitT M model set N (F 0))) model am M set H.size N hN hN12) (wa tw359 rfl) (wa tw356 rfl) (wa tw358 rfl) (was ts15 rfl) (wa tw3 rfl) (by decide +kernel) ⟨Nat.le_of_ble_eq_true rfl, Nat.le_of_ble_eq_true rfl⟩ (pVw (hP.sub [0, 15, 1, 2, 3, 4, 5, 6, 7, 8, 9, 10, 11, 12, 13, 14] rfl) (hD.sub [0, 15, 1, 2, 3, 4, 5, 6, 7, 8, 9, 10, 11, 12, 13, 14] (by decide) rfl) hK hNw 0 rfl rfl) hl.1 rfl (Nat.le_of_ble_eq_true rfl) dX1_make_94 ⟨Nat.le_of_ble_eq_true rfl, Nat.le_of_ble_eq_true rfl⟩ rfl rfl rfl) hP hD hS hA [0, 15, 1, 2, 3, 4, 5, 6, 7, 8, 9, 10, 11, 12, 13, 14] [] rfl rfl (by decide) (by decide) (fun H locs hP hD hS => ?_)
        have hP : va_P D vwCl [((af 0), .inr (1, [.ref (af 1), .ref (af 2), .ref (af 5), .int model])), ((af 1), .inr (5, [.long ((fB1 M N model set F) 0 0), .long ((fB1 M N model set F) 0 1), .long ((fB1 M N model set F) 0 2), .long ((fB1 M N model set F) 0 3), .long ((fB1 M N model set F) 0 4), .long ((fB1 M N model set F) 0 5), .long ((fB1 M N model set F) 0 6), .long ((fB1 M N model set F) 0 7), .long ((fB1 M N model set F) 0 8), .long ((fB1 M N model set F) 0 9), .long ((fB1 M N model set F) 0 10), .long ((fB1 M N model set F) 0 11), .long ((fB1 M N model set F) 0 12)])), ((af 2), eJJ C 2 (rr af 3 2)), ((af 3), eJ C 4 ((fB1 M N model set F) 1)), ((af 4), eJ C 4 ((fB1 M N model set F) 2)), ((af 5), eJJ C 2 (rr af 6 2)), ((af 6), eJ C 3 ((fB1 M N model set F) 3)), ((af 7), eJ C 3 ((fB1 M N model set F) 4)), ((am 0), .inr (2, [.ref (am 1), .ref (am 2), .ref (am 3), .ref (am 4), .ref (am 5), .int (M 6 0), .int (M 6 1), .int (M 6 2)])), ((am 1), eI C 12 (M 0)), ((am 2), eI C 12 (M 1)), ((am 3), eI C 12 (M 2)), ((am 4), eI C 12 (M 3)), ((am 5), eII C 2 (rr am 6 2)), ((am 6), eI C 12 (M 4)), ((am 7), eI C 12 (M 5))] H := hP
        have hD : va_D A [((af 0), .inr (1, [.ref (af 1), .ref (af 2), .ref (af 5), .int model])), ((af 1), .inr (5, [.long ((fB1 M N model set F) 0 0), .long ((fB1 M N model set F) 0 1), .long ((fB1 M N model set F) 0 2), .long ((fB1 M N model set F) 0 3), .long ((fB1 M N model set F) 0 4), .long ((fB1 M N model set F) 0 5), .long ((fB1 M N model set F) 0 6), .long ((fB1 M N model set F) 0 7), .long ((fB1 M N model set F) 0 8), .long ((fB1 M N model set F) 0 9), .long ((fB1 M N model set F) 0 10), .long ((fB1 M N model set F) 0 11), .long ((fB1 M N model set F) 0 12)])), ((af 2), eJJ C 2 (rr af 3 2)), ((af 3), eJ C 4 ((fB1 M N model set F) 1)), ((af 4), eJ C 4 ((fB1 M N model set F) 2)), ((af 5), eJJ C 2 (rr af 6 2)), ((af 6), eJ C 3 ((fB1 M N model set F) 3)), ((af 7), eJ C 3 ((fB1 M N model set F) 4)), ((am 0), .inr (2, [.ref (am 1), .ref (am 2), .ref (am 3), .ref (am 4), .ref (am 5), .int (M 6 0), .int (M 6 1), .int (M 6 2)])), ((am 1), eI C 12 (M 0)), ((am 2), eI C 12 (M 1)), ((am 3), eI C 12 (M 2)), ((am 4), eI C 12 (M 3)), ((am 5), eII C 2 (rr am 6 2)), ((am 6), eI C 12 (M 4)), ((am 7), eI C 12 (M 5))] := hD
        refine lv_aload_n hx hb dX1_make_97 rfl (lv_at hl 1 rfl) ?_
        refine lv_iload hx hb dX1_make_98 (lv_at hl 0 rfl) ?_
        refine xwv (wr := [((am 0), .inr (2, [.ref (am 1), .ref (am 2), .ref (am 3), .ref (am 4), .ref (am 5), .int (M 6 0), .int (M 6 1), .int (M 6 2)])), ((am 1), eI C 12 (M 0)), ((am 2), eI C 12 (M 1)), ((am 3), eI C 12 (M 2)), ((am 4), eI C 12 (M 3)), ((am 5), eII C 2 (rr am 6 2)), ((am 6), eI C 12 (M 4)), ((am 7), eI C 12 (M 5))]) (rV (As := [.int 0]) (n := 1) (rest := []) ⟨hx, hb, hml, hown, hW⟩ (kX1_makeFactors_0 l D C af (fB1 M N model set F) model  H.size ) (wa tw363 rfl) (wa tw360 rfl) (wa tw362 rfl) (was ts16 rfl) (wa tw3 rfl) (by decide +kernel) ⟨Nat.le_of_ble_eq_true rfl, Nat.le_of_ble_eq_true rfl⟩ (pVw (hP.sub [0, 1, 2, 3, 4, 5, 6, 7] rfl) (hD.sub [0, 1, 2, 3, 4, 5, 6, 7] (by decide) rfl) hK hNw 0 rfl rfl) hl.1 rfl (Nat.le_of_ble_eq_true rfl) dX1_make_100 ⟨Nat.le_of_ble_eq_true rfl, Nat.le_of_ble_eq_true rfl⟩ rfl rfl rfl) hP hD hS hA [0, 1, 2, 3, 4, 5, 6, 7] [8, 9, 10, 11, 12, 13, 14, 15] rfl rfl (by decide) (by decide) (fun H locs hP hD hS => ?_)
        have hP : va_P D vwCl [((am 0), .inr (2, [.ref (am 1), .ref (am 2), .ref (am 3), .ref (am 4), .ref (am 5), .int (M 6 0), .int (M 6 1), .int (M 6 2)])), ((am 1), eI C 12 (M 0)), ((am 2), eI C 12 (M 1)), ((am 3), eI C 12 (M 2)), ((am 4), eI C 12 (M 3)), ((am 5), eII C 2 (rr am 6 2)), ((am 6), eI C 12 (M 4)), ((am 7), eI C 12 (M 5)), ((af 0), .inr (1, [.ref (af 1), .ref (af 2), .ref (af 5), .int model])), ((af 1), .inr (5, [.long ((fB2 M N model set F) 0 0), .long ((fB2 M N model set F) 0 1), .long ((fB2 M N model set F) 0 2), .long ((fB2 M N model set F) 0 3), .long ((fB2 M N model set F) 0 4), .long ((fB2 M N model set F) 0 5), .long ((fB2 M N model set F) 0 6), .long ((fB2 M N model set F) 0 7), .long ((fB2 M N model set F) 0 8), .long ((fB2 M N model set F) 0 9), .long ((fB2 M N model set F) 0 10), .long ((fB2 M N model set F) 0 11), .long ((fB2 M N model set F) 0 12)])), ((af 2), eJJ C 2 (rr af 3 2)), ((af 3), eJ C 4 ((fB2 M N model set F) 1)), ((af 4), eJ C 4 ((fB2 M N model set F) 2)), ((af 5), eJJ C 2 (rr af 6 2)), ((af 6), eJ C 3 ((fB2 M N model set F) 3)), ((af 7), eJ C 3 ((fB2 M N model set F) 4))] H := hP
        have hD : va_D A [((am 0), .inr (2, [.ref (am 1), .ref (am 2), .ref (am 3), .ref (am 4), .ref (am 5), .int (M 6 0), .int (M 6 1), .int (M 6 2)])), ((am 1), eI C 12 (M 0)), ((am 2), eI C 12 (M 1)), ((am 3), eI C 12 (M 2)), ((am 4), eI C 12 (M 3)), ((am 5), eII C 2 (rr am 6 2)), ((am 6), eI C 12 (M 4)), ((am 7), eI C 12 (M 5)), ((af 0), .inr (1, [.ref (af 1), .ref (af 2), .ref (af 5), .int model])), ((af 1), .inr (5, [.long ((fB2 M N model set F) 0 0), .long ((fB2 M N model set F) 0 1), .long ((fB2 M N model set F) 0 2), .long ((fB2 M N model set F) 0 3), .long ((fB2 M N model set F) 0 4), .long ((fB2 M N model set F) 0 5), .long ((fB2 M N model set F) 0 6), .long ((fB2 M N model set F) 0 7), .long ((fB2 M N model set F) 0 8), .long ((fB2 M N model set F) 0 9), .long ((fB2 M N model set F) 0 10), .long ((fB2 M N model set F) 0 11), .long ((fB2 M N model set F) 0 12)])), ((af 2), eJJ C 2 (rr af 3 2)), ((af 3), eJ C 4 ((fB2 M N model set F) 1)), ((af 4), eJ C 4 ((fB2 M N model set F) 2)), ((af 5), eJJ C 2 (rr af 6 2)), ((af 6), eJ C 3 ((fB2 M N model set F) 3)), ((af 7), eJ C 3 ((fB2 M N model set F) 4))] := hD
        refine lv_iinc (v := 1) (lv' := [(4, .int 1), (0, .ref (af 0)), (1, .ref (am 0)), (2, .int model), (3, .int set)]) hx hb dX1_make_103 hl (k := 0) rfl (by decide) (by decide) rfl (fun ls hl => ?_)
        refine lv_goto (tgt := 83) hx hb dX1_make_106 (by decide) ?_
        refine lv_iload hx hb dX1_make_83 (lv_at hl 0 rfl) ?_
        refine lv_iconst (v := 2) hx hb dX1_make_85 (by decide) ?_
        refine lv_icmp_ge (tgt := 109) hx hb dX1_make_86 (by decide) (fun c_3 => ?_) (fun c_3 => ?_)
        · exact absurd c_3 (by decide)
        · refine lv_aload_n hx hb dX1_make_89 rfl (lv_at hl 1 rfl) ?_
          refine lv_aload_n hx hb dX1_make_90 rfl (lv_at hl 2 rfl) ?_
          refine lv_iload hx hb dX1_make_91 (lv_at hl 0 rfl) ?_
          refine lv_iload_n hx hb dX1_make_93 rfl (lv_at hl 4 rfl) ?_
          refine xwv (wr := []) (rV (As := [.ref (am 0), .int 1, .int set]) (n := 3) (rest := []) ⟨hx, hb, hml, hown, hW⟩ (kX1_makeSums_1 l D C af (fB2 M N model set F) model am M set H.size N hN hN12) (wa tw359 rfl) (wa tw356 rfl) (wa tw358 rfl) (was ts15 rfl) (wa tw3 rfl) (by decide +kernel) ⟨Nat.le_of_ble_eq_true rfl, Nat.le_of_ble_eq_true rfl⟩ (pVw (hP.sub [8, 9, 10, 11, 12, 13, 14, 15, 0, 1, 2, 3, 4, 5, 6, 7] rfl) (hD.sub [8, 9, 10, 11, 12, 13, 14, 15, 0, 1, 2, 3, 4, 5, 6, 7] (by decide) rfl) hK hNw 0 rfl rfl) hl.1 rfl (Nat.le_of_ble_eq_true rfl) dX1_make_94 ⟨Nat.le_of_ble_eq_true rfl, Nat.le_of_ble_eq_true rfl⟩ rfl rfl rfl) hP hD hS hA [8, 9, 10, 11, 12, 13, 14, 15, 0, 1, 2, 3, 4, 5, 6, 7] [] rfl rfl (by decide) (by decide) (fun H locs hP hD hS => ?_)
          have hP : va_P D vwCl [((af 0), .inr (1, [.ref (af 1), .ref (af 2), .ref (af 5), .int model])), ((af 1), .inr (5, [.long ((fB3 M N model set F) 0 0), .long ((fB3 M N model set F) 0 1), .long ((fB3 M N model set F) 0 2), .long ((fB3 M N model set F) 0 3), .long ((fB3 M N model set F) 0 4), .long ((fB3 M N model set F) 0 5), .long ((fB3 M N model set F) 0 6), .long ((fB3 M N model set F) 0 7), .long ((fB3 M N model set F) 0 8), .long ((fB3 M N model set F) 0 9), .long ((fB3 M N model set F) 0 10), .long ((fB3 M N model set F) 0 11), .long ((fB3 M N model set F) 0 12)])), ((af 2), eJJ C 2 (rr af 3 2)), ((af 3), eJ C 4 ((fB3 M N model set F) 1)), ((af 4), eJ C 4 ((fB3 M N model set F) 2)), ((af 5), eJJ C 2 (rr af 6 2)), ((af 6), eJ C 3 ((fB3 M N model set F) 3)), ((af 7), eJ C 3 ((fB3 M N model set F) 4)), ((am 0), .inr (2, [.ref (am 1), .ref (am 2), .ref (am 3), .ref (am 4), .ref (am 5), .int (M 6 0), .int (M 6 1), .int (M 6 2)])), ((am 1), eI C 12 (M 0)), ((am 2), eI C 12 (M 1)), ((am 3), eI C 12 (M 2)), ((am 4), eI C 12 (M 3)), ((am 5), eII C 2 (rr am 6 2)), ((am 6), eI C 12 (M 4)), ((am 7), eI C 12 (M 5))] H := hP
          have hD : va_D A [((af 0), .inr (1, [.ref (af 1), .ref (af 2), .ref (af 5), .int model])), ((af 1), .inr (5, [.long ((fB3 M N model set F) 0 0), .long ((fB3 M N model set F) 0 1), .long ((fB3 M N model set F) 0 2), .long ((fB3 M N model set F) 0 3), .long ((fB3 M N model set F) 0 4), .long ((fB3 M N model set F) 0 5), .long ((fB3 M N model set F) 0 6), .long ((fB3 M N model set F) 0 7), .long ((fB3 M N model set F) 0 8), .long ((fB3 M N model set F) 0 9), .long ((fB3 M N model set F) 0 10), .long ((fB3 M N model set F) 0 11), .long ((fB3 M N model set F) 0 12)])), ((af 2), eJJ C 2 (rr af 3 2)), ((af 3), eJ C 4 ((fB3 M N model set F) 1)), ((af 4), eJ C 4 ((fB3 M N model set F) 2)), ((af 5), eJJ C 2 (rr af 6 2)), ((af 6), eJ C 3 ((fB3 M N model set F) 3)), ((af 7), eJ C 3 ((fB3 M N model set F) 4)), ((am 0), .inr (2, [.ref (am 1), .ref (am 2), .ref (am 3), .ref (am 4), .ref (am 5), .int (M 6 0), .int (M 6 1), .int (M 6 2)])), ((am 1), eI C 12 (M 0)), ((am 2), eI C 12 (M 1)), ((am 3), eI C 12 (M 2)), ((am 4), eI C 12 (M 3)), ((am 5), eII C 2 (rr am 6 2)), ((am 6), eI C 12 (M 4)), ((am 7), eI C 12 (M 5))] := hD
          refine lv_aload_n hx hb dX1_make_97 rfl (lv_at hl 1 rfl) ?_
          refine lv_iload hx hb dX1_make_98 (lv_at hl 0 rfl) ?_
          refine xwv (wr := [((am 0), .inr (2, [.ref (am 1), .ref (am 2), .ref (am 3), .ref (am 4), .ref (am 5), .int (M 6 0), .int (M 6 1), .int (M 6 2)])), ((am 1), eI C 12 (M 0)), ((am 2), eI C 12 (M 1)), ((am 3), eI C 12 (M 2)), ((am 4), eI C 12 (M 3)), ((am 5), eII C 2 (rr am 6 2)), ((am 6), eI C 12 (M 4)), ((am 7), eI C 12 (M 5))]) (rV (As := [.int 1]) (n := 1) (rest := []) ⟨hx, hb, hml, hown, hW⟩ (kX1_makeFactors_1 l D C af (fB3 M N model set F) model  H.size ) (wa tw363 rfl) (wa tw360 rfl) (wa tw362 rfl) (was ts16 rfl) (wa tw3 rfl) (by decide +kernel) ⟨Nat.le_of_ble_eq_true rfl, Nat.le_of_ble_eq_true rfl⟩ (pVw (hP.sub [0, 1, 2, 3, 4, 5, 6, 7] rfl) (hD.sub [0, 1, 2, 3, 4, 5, 6, 7] (by decide) rfl) hK hNw 0 rfl rfl) hl.1 rfl (Nat.le_of_ble_eq_true rfl) dX1_make_100 ⟨Nat.le_of_ble_eq_true rfl, Nat.le_of_ble_eq_true rfl⟩ rfl rfl rfl) hP hD hS hA [0, 1, 2, 3, 4, 5, 6, 7] [8, 9, 10, 11, 12, 13, 14, 15] rfl rfl (by decide) (by decide) (fun H locs hP hD hS => ?_)
          have hP : va_P D vwCl [((am 0), .inr (2, [.ref (am 1), .ref (am 2), .ref (am 3), .ref (am 4), .ref (am 5), .int (M 6 0), .int (M 6 1), .int (M 6 2)])), ((am 1), eI C 12 (M 0)), ((am 2), eI C 12 (M 1)), ((am 3), eI C 12 (M 2)), ((am 4), eI C 12 (M 3)), ((am 5), eII C 2 (rr am 6 2)), ((am 6), eI C 12 (M 4)), ((am 7), eI C 12 (M 5)), ((af 0), .inr (1, [.ref (af 1), .ref (af 2), .ref (af 5), .int model])), ((af 1), .inr (5, [.long ((f1_make M N model set F) 0 0), .long ((f1_make M N model set F) 0 1), .long ((f1_make M N model set F) 0 2), .long ((f1_make M N model set F) 0 3), .long ((f1_make M N model set F) 0 4), .long ((f1_make M N model set F) 0 5), .long ((f1_make M N model set F) 0 6), .long ((f1_make M N model set F) 0 7), .long ((f1_make M N model set F) 0 8), .long ((f1_make M N model set F) 0 9), .long ((f1_make M N model set F) 0 10), .long ((f1_make M N model set F) 0 11), .long ((f1_make M N model set F) 0 12)])), ((af 2), eJJ C 2 (rr af 3 2)), ((af 3), eJ C 4 ((f1_make M N model set F) 1)), ((af 4), eJ C 4 ((f1_make M N model set F) 2)), ((af 5), eJJ C 2 (rr af 6 2)), ((af 6), eJ C 3 ((f1_make M N model set F) 3)), ((af 7), eJ C 3 ((f1_make M N model set F) 4))] H := hP
          have hD : va_D A [((am 0), .inr (2, [.ref (am 1), .ref (am 2), .ref (am 3), .ref (am 4), .ref (am 5), .int (M 6 0), .int (M 6 1), .int (M 6 2)])), ((am 1), eI C 12 (M 0)), ((am 2), eI C 12 (M 1)), ((am 3), eI C 12 (M 2)), ((am 4), eI C 12 (M 3)), ((am 5), eII C 2 (rr am 6 2)), ((am 6), eI C 12 (M 4)), ((am 7), eI C 12 (M 5)), ((af 0), .inr (1, [.ref (af 1), .ref (af 2), .ref (af 5), .int model])), ((af 1), .inr (5, [.long ((f1_make M N model set F) 0 0), .long ((f1_make M N model set F) 0 1), .long ((f1_make M N model set F) 0 2), .long ((f1_make M N model set F) 0 3), .long ((f1_make M N model set F) 0 4), .long ((f1_make M N model set F) 0 5), .long ((f1_make M N model set F) 0 6), .long ((f1_make M N model set F) 0 7), .long ((f1_make M N model set F) 0 8), .long ((f1_make M N model set F) 0 9), .long ((f1_make M N model set F) 0 10), .long ((f1_make M N model set F) 0 11), .long ((f1_make M N model set F) 0 12)])), ((af 2), eJJ C 2 (rr af 3 2)), ((af 3), eJ C 4 ((f1_make M N model set F) 1)), ((af 4), eJ C 4 ((f1_make M N model set F) 2)), ((af 5), eJJ C 2 (rr af 6 2)), ((af 6), eJ C 3 ((f1_make M N model set F) 3)), ((af 7), eJ C 3 ((f1_make M N model set F) 4))] := hD
          refine lv_iinc (v := 2) (lv' := [(4, .int 2), (0, .ref (af 0)), (1, .ref (am 0)), (2, .int model), (3, .int set)]) hx hb dX1_make_103 hl (k := 0) rfl (by decide) (by decide) rfl (fun ls hl => ?_)
          refine lv_goto (tgt := 83) hx hb dX1_make_106 (by decide) ?_
          refine lv_iload hx hb dX1_make_83 (lv_at hl 0 rfl) ?_
          refine lv_iconst (v := 2) hx hb dX1_make_85 (by decide) ?_
          refine lv_icmp_ge (tgt := 109) hx hb dX1_make_86 (by decide) (fun c_4 => ?_) (fun c_4 => ?_)
          · refine lv_aload_n hx hb dX1_make_109 rfl (lv_at hl 1 rfl) ?_
            refine va_get (D := D) (ci := 1) (C := RX1) (T := TX1) (N := 4) hx hb hW inX1 hown hK hP 8 rfl rfl 0 (by decide) (hW _ (wa tw128 rfl)) (fun _ h9 => h9) rfl dX1_make_110 ?_
            refine va_getN (D := D) (host := "FieldAfterField") (ci := 5) (C := RX5) (T := TX5) (N := 13) hx hb hW inX5 hown hK hP 9 rfl rfl 12 (by decide) (va_Nw.use rfl (hNw _ tw95 rfl)) (fun _ h9 => h9) rfl dX1_make_113 ?_
            refine lv_lconst (v := 0) hx hb dX1_make_116 (by decide) ?_
            refine xlcmp_eq (tgt := 125) hx hb dX1_make_117 dX1_make_118 (by decide) (fun c_5 => ?_) (fun c_5 => ?_)
            · refine lv_iconst (v := 0) hx hb dX1_make_125 (by decide) ?_
              have hP := hP.sub [8, 9, 10, 11, 12, 13, 14, 15, 0, 1, 2, 3, 4, 5, 6, 7] rfl
              have hD := hD.sub (ws' := [((af 0), .inr (1, [.ref (af 1), .ref (af 2), .ref (af 5), .int model])), ((af 1), .inr (5, [.long ((f1_make M N model set F) 0 0), .long ((f1_make M N model set F) 0 1), .long ((f1_make M N model set F) 0 2), .long ((f1_make M N model set F) 0 3), .long ((f1_make M N model set F) 0 4), .long ((f1_make M N model set F) 0 5), .long ((f1_make M N model set F) 0 6), .long ((f1_make M N model set F) 0 7), .long ((f1_make M N model set F) 0 8), .long ((f1_make M N model set F) 0 9), .long ((f1_make M N model set F) 0 10), .long ((f1_make M N model set F) 0 11), .long ((f1_make M N model set F) 0 12)])), ((af 2), eJJ C 2 (rr af 3 2)), ((af 3), eJ C 4 ((f1_make M N model set F) 1)), ((af 4), eJ C 4 ((f1_make M N model set F) 2)), ((af 5), eJJ C 2 (rr af 6 2)), ((af 6), eJ C 3 ((f1_make M N model set F) 3)), ((af 7), eJ C 3 ((f1_make M N model set F) 4)), ((am 0), .inr (2, [.ref (am 1), .ref (am 2), .ref (am 3), .ref (am 4), .ref (am 5), .int (M 6 0), .int (M 6 1), .int (M 6 2)])), ((am 1), eI C 12 (M 0)), ((am 2), eI C 12 (M 1)), ((am 3), eI C 12 (M 2)), ((am 4), eI C 12 (M 3)), ((am 5), eII C 2 (rr am 6 2)), ((am 6), eI C 12 (M 4)), ((am 7), eI C 12 (M 5))]) [8, 9, 10, 11, 12, 13, 14, 15, 0, 1, 2, 3, 4, 5, 6, 7] (by decide) rfl
              have hP9 : va_P D vwCl (((wF af C (f1_make M N model set F) model) ++ (wM am C M))) H := hP
              have hD9 : va_D A (((wF af C (f1_make M N model set F) model) ++ (wM am C M))) := hD
              exact W.zret (v := 0) hx hb hr rfl (fun t ht _ => ⟨⟨_, (), rfl, (by rw [f1_ok, if_pos c_5]), ⟨by rw [ht]; exact hP9, by rw [hAe]; exact hD9⟩⟩, hS.F ht⟩) hS.2.2 dX1_make_126
            · refine lv_iconst (v := 1) hx hb dX1_make_121 (by decide) ?_
              refine lv_goto (tgt := 126) hx hb dX1_make_122 (by decide) ?_
              have hP := hP.sub [8, 9, 10, 11, 12, 13, 14, 15, 0, 1, 2, 3, 4, 5, 6, 7] rfl
              have hD := hD.sub (ws' := [((af 0), .inr (1, [.ref (af 1), .ref (af 2), .ref (af 5), .int model])), ((af 1), .inr (5, [.long ((f1_make M N model set F) 0 0), .long ((f1_make M N model set F) 0 1), .long ((f1_make M N model set F) 0 2), .long ((f1_make M N model set F) 0 3), .long ((f1_make M N model set F) 0 4), .long ((f1_make M N model set F) 0 5), .long ((f1_make M N model set F) 0 6), .long ((f1_make M N model set F) 0 7), .long ((f1_make M N model set F) 0 8), .long ((f1_make M N model set F) 0 9), .long ((f1_make M N model set F) 0 10), .long ((f1_make M N model set F) 0 11), .long ((f1_make M N model set F) 0 12)])), ((af 2), eJJ C 2 (rr af 3 2)), ((af 3), eJ C 4 ((f1_make M N model set F) 1)), ((af 4), eJ C 4 ((f1_make M N model set F) 2)), ((af 5), eJJ C 2 (rr af 6 2)), ((af 6), eJ C 3 ((f1_make M N model set F) 3)), ((af 7), eJ C 3 ((f1_make M N model set F) 4)), ((am 0), .inr (2, [.ref (am 1), .ref (am 2), .ref (am 3), .ref (am 4), .ref (am 5), .int (M 6 0), .int (M 6 1), .int (M 6 2)])), ((am 1), eI C 12 (M 0)), ((am 2), eI C 12 (M 1)), ((am 3), eI C 12 (M 2)), ((am 4), eI C 12 (M 3)), ((am 5), eII C 2 (rr am 6 2)), ((am 6), eI C 12 (M 4)), ((am 7), eI C 12 (M 5))]) [8, 9, 10, 11, 12, 13, 14, 15, 0, 1, 2, 3, 4, 5, 6, 7] (by decide) rfl
              have hP9 : va_P D vwCl (((wF af C (f1_make M N model set F) model) ++ (wM am C M))) H := hP
              have hD9 : va_D A (((wF af C (f1_make M N model set F) model) ++ (wM am C M))) := hD
              exact W.zret (v := 1) hx hb hr rfl (fun t ht _ => ⟨⟨_, (), rfl, (by rw [f1_ok, if_neg c_5]), ⟨by rw [ht]; exact hP9, by rw [hAe]; exact hD9⟩⟩, hS.F ht⟩) hS.2.2 dX1_make_126
          · exact absurd (by decide) c_4
    · exact absurd (q_le hN rfl (by omega) (by omega)) c_1
  | succ n19 ih19 =>
    obtain ⟨h19_0, h19_1, hl, hP, hD, hS⟩ := hinv
    refine lv_iload hx hb dX1_make_19 (lv_at hl 4 rfl) ?_
    refine lv_aload_n hx hb dX1_make_21 rfl (lv_at hl 1 rfl) ?_
    refine va_getN (D := D) (host := "FieldAfterField") (ci := 2) (C := RX2) (T := TX2) (N := 8) hx hb hW inX2 hown hK hP 7 rfl rfl 5 (by decide) (va_Nw.use rfl (hNw _ tw40 rfl)) (fun _ h9 => h9) rfl dX1_make_22 ?_
    refine lv_icmp_ge (tgt := 73) hx hb dX1_make_25 (by decide) (fun c_6 => ?_) (fun c_6 => ?_)
    · exact absurd c_6 (q_nle hN rfl (by omega) (by omega))
    · refine lv_iload_n hx hb dX1_make_28 rfl (lv_at hl 3 rfl) ?_
      refine lv_iload hx hb dX1_make_29 (lv_at hl 4 rfl) ?_
      refine xri (r := f6_isIn set (nI k)) (rSN (As := [.int set, .int (nI k)]) (n := 2) (rest := []) ⟨hx, hb, hml, hown, hW⟩ (kX6_isIn l set (nI k)) (wa tw285 rfl) (hNw _ tw339 rfl) (wa tw284 rfl) (wa tw1 rfl) (by decide +kernel) ⟨Nat.le_of_ble_eq_true rfl, Nat.le_of_ble_eq_true rfl⟩ pS0 hl.1 rfl (Nat.le_of_ble_eq_true rfl) dX1_make_31 ⟨Nat.le_of_ble_eq_true rfl, Nat.le_of_ble_eq_true rfl⟩ rfl rfl rfl) ?_
      refine lv_if_eq (tgt := 67) hx hb dX1_make_34 (by decide) (fun c_7 => ?_) (fun c_7 => ?_)
      · refine lv_iinc (v := nI k + 1) (lv' := [(4, .int (nI k + 1)), (0, .ref (af 0)), (1, .ref (am 0)), (2, .int model), (3, .int set)]) hx hb dX1_make_67 hl (k := 4) rfl rfl (by decide) rfl (fun ls hl => ?_)
        refine lv_goto (tgt := 19) hx hb dX1_make_70 (by decide) ?_
        rw [nI_1] at hl
        exact ih19 (k := k + 1) (T1 := T1) (ls := ls) (H := H) (locs := locs) ⟨by omega, by rw [← h19_1, mkT, if_pos c_7], lv_sub hl [1, 2, 3, 4, 0] rfl, hP, hD, hS⟩
      · refine lv_aload_n hx hb dX1_make_37 rfl (lv_at hl 0 rfl) ?_
        refine va_get (D := D) (ci := 1) (C := RX1) (T := TX1) (N := 4) hx hb hW inX1 hown hK hP 0 rfl rfl 0 (by decide) (hW _ (wa tw128 rfl)) (fun _ h9 => h9) rfl dX1_make_38 ?_
        refine lv_aload_n hx hb dX1_make_41 rfl (lv_at hl 1 rfl) ?_
        refine lv_aload_n hx hb dX1_make_42 rfl (lv_at hl 0 rfl) ?_
        refine va_get (D := D) (ci := 1) (C := RX1) (T := TX1) (N := 4) hx hb hW inX1 hown hK hP 0 rfl rfl 3 (by decide) (hW _ (wa tw133 rfl)) (fun _ h9 => h9) rfl dX1_make_43 ?_
        refine lv_iload hx hb dX1_make_46 (lv_at hl 4 rfl) ?_
        refine xri (r := f2_second M model k) (rVN (As := [.int model, .int (nI k)]) (n := 2) (rest := [.ref (af 1)]) ⟨hx, hb, hml, hown, hW⟩ (kX2_secondTerm l D C am M model k (by omega)) (wa tw343 rfl) (hNw _ tw340 rfl) (wa tw342 rfl) (was ts11 rfl) (wa tw2 rfl) (by decide +kernel) ⟨Nat.le_of_ble_eq_true rfl, Nat.le_of_ble_eq_true rfl⟩ (pVr (hP.sub [7, 8, 9, 10, 11, 12, 13, 14] rfl) hK hNw 0 rfl rfl) hl.1 rfl (Nat.le_of_ble_eq_true rfl) dX1_make_48 ⟨Nat.le_of_ble_eq_true rfl, Nat.le_of_ble_eq_true rfl⟩ rfl rfl rfl) ?_
        refine lv_i2l (v := (f2_second M model k).toInt64) hx hb dX1_make_51 rfl ?_
        refine lv_aload_n hx hb dX1_make_52 rfl (lv_at hl 1 rfl) ?_
        refine lv_aload_n hx hb dX1_make_53 rfl (lv_at hl 0 rfl) ?_
        refine va_get (D := D) (ci := 1) (C := RX1) (T := TX1) (N := 4) hx hb hW inX1 hown hK hP 0 rfl rfl 3 (by decide) (hW _ (wa tw133 rfl)) (fun _ h9 => h9) rfl dX1_make_54 ?_
        refine lv_iload hx hb dX1_make_57 (lv_at hl 4 rfl) ?_
        refine xri (r := f2_third M model k) (rVN (As := [.int model, .int (nI k)]) (n := 2) (rest := [.long ((f2_second M model k).toInt64), .ref (af 1)]) ⟨hx, hb, hml, hown, hW⟩ (kX2_thirdTerm l D C am M model k (by omega)) (wa tw347 rfl) (hNw _ tw344 rfl) (wa tw346 rfl) (was ts12 rfl) (wa tw2 rfl) (by decide +kernel) ⟨Nat.le_of_ble_eq_true rfl, Nat.le_of_ble_eq_true rfl⟩ (pVr (hP.sub [7, 8, 9, 10, 11, 12, 13, 14] rfl) hK hNw 0 rfl rfl) hl.1 rfl (Nat.le_of_ble_eq_true rfl) dX1_make_59 ⟨Nat.le_of_ble_eq_true rfl, Nat.le_of_ble_eq_true rfl⟩ rfl rfl rfl) ?_
        refine lv_i2l (v := (f2_third M model k).toInt64) hx hb dX1_make_62 rfl ?_
        refine lv_iconst (v := 1) hx hb dX1_make_63 (by decide) ?_
        refine xwv (wr := [((af 0), .inr (1, [.ref (af 1), .ref (af 2), .ref (af 5), .int model])), ((af 2), eJJ C 2 (rr af 3 2)), ((af 3), eJ C 4 (F 1)), ((af 4), eJ C 4 (F 2)), ((af 5), eJJ C 2 (rr af 6 2)), ((af 6), eJ C 3 (F 3)), ((af 7), eJ C 3 (F 4)), ((am 0), .inr (2, [.ref (am 1), .ref (am 2), .ref (am 3), .ref (am 4), .ref (am 5), .int (M 6 0), .int (M 6 1), .int (M 6 2)])), ((am 1), eI C 12 (M 0)), ((am 2), eI C 12 (M 1)), ((am 3), eI C 12 (M 2)), ((am 4), eI C 12 (M 3)), ((am 5), eII C 2 (rr am 6 2)), ((am 6), eI C 12 (M 4)), ((am 7), eI C 12 (M 5))]) (rVN (As := [.long ((f2_second M model k).toInt64), .long ((f2_third M model k).toInt64), .int 1]) (n := 3) (rest := []) ⟨hx, hb, hml, hown, hW⟩ (kX5_add l D C (af 1) T1 ((f2_second M model k).toInt64) ((f2_third M model k).toInt64) 1 H.size) (wa tw351 rfl) (hNw _ tw348 rfl) (wa tw350 rfl) (was ts13 rfl) (wa tw4 rfl) (by decide +kernel) ⟨Nat.le_of_ble_eq_true rfl, Nat.le_of_ble_eq_true rfl⟩ (pVw (hP.sub [15] rfl) (hD.sub [15] (by decide) rfl) hK hNw 0 rfl rfl) hl.1 rfl (Nat.le_of_ble_eq_true rfl) dX1_make_64 ⟨Nat.le_of_ble_eq_true rfl, Nat.le_of_ble_eq_true rfl⟩ rfl rfl rfl) hP hD hS hA [15] [0, 1, 2, 3, 4, 5, 6, 7, 8, 9, 10, 11, 12, 13, 14] rfl rfl (by decide) (by decide) (fun H locs hP hD hS => ?_)
        have hP : va_P D vwCl [((af 0), .inr (1, [.ref (af 1), .ref (af 2), .ref (af 5), .int model])), ((af 2), eJJ C 2 (rr af 3 2)), ((af 3), eJ C 4 (F 1)), ((af 4), eJ C 4 (F 2)), ((af 5), eJJ C 2 (rr af 6 2)), ((af 6), eJ C 3 (F 3)), ((af 7), eJ C 3 (F 4)), ((am 0), .inr (2, [.ref (am 1), .ref (am 2), .ref (am 3), .ref (am 4), .ref (am 5), .int (M 6 0), .int (M 6 1), .int (M 6 2)])), ((am 1), eI C 12 (M 0)), ((am 2), eI C 12 (M 1)), ((am 3), eI C 12 (M 2)), ((am 4), eI C 12 (M 3)), ((am 5), eII C 2 (rr am 6 2)), ((am 6), eI C 12 (M 4)), ((am 7), eI C 12 (M 5)), ((af 1), .inr (5, [.long ((f5_add_T T1 ((f2_second M model k).toInt64) ((f2_third M model k).toInt64) 1) 0), .long ((f5_add_T T1 ((f2_second M model k).toInt64) ((f2_third M model k).toInt64) 1) 1), .long ((f5_add_T T1 ((f2_second M model k).toInt64) ((f2_third M model k).toInt64) 1) 2), .long ((f5_add_T T1 ((f2_second M model k).toInt64) ((f2_third M model k).toInt64) 1) 3), .long ((f5_add_T T1 ((f2_second M model k).toInt64) ((f2_third M model k).toInt64) 1) 4), .long ((f5_add_T T1 ((f2_second M model k).toInt64) ((f2_third M model k).toInt64) 1) 5), .long ((f5_add_T T1 ((f2_second M model k).toInt64) ((f2_third M model k).toInt64) 1) 6), .long ((f5_add_T T1 ((f2_second M model k).toInt64) ((f2_third M model k).toInt64) 1) 7), .long ((f5_add_T T1 ((f2_second M model k).toInt64) ((f2_third M model k).toInt64) 1) 8), .long ((f5_add_T T1 ((f2_second M model k).toInt64) ((f2_third M model k).toInt64) 1) 9), .long ((f5_add_T T1 ((f2_second M model k).toInt64) ((f2_third M model k).toInt64) 1) 10), .long ((f5_add_T T1 ((f2_second M model k).toInt64) ((f2_third M model k).toInt64) 1) 11), .long ((f5_add_T T1 ((f2_second M model k).toInt64) ((f2_third M model k).toInt64) 1) 12)]))] H := hP
        have hD : va_D A [((af 0), .inr (1, [.ref (af 1), .ref (af 2), .ref (af 5), .int model])), ((af 2), eJJ C 2 (rr af 3 2)), ((af 3), eJ C 4 (F 1)), ((af 4), eJ C 4 (F 2)), ((af 5), eJJ C 2 (rr af 6 2)), ((af 6), eJ C 3 (F 3)), ((af 7), eJ C 3 (F 4)), ((am 0), .inr (2, [.ref (am 1), .ref (am 2), .ref (am 3), .ref (am 4), .ref (am 5), .int (M 6 0), .int (M 6 1), .int (M 6 2)])), ((am 1), eI C 12 (M 0)), ((am 2), eI C 12 (M 1)), ((am 3), eI C 12 (M 2)), ((am 4), eI C 12 (M 3)), ((am 5), eII C 2 (rr am 6 2)), ((am 6), eI C 12 (M 4)), ((am 7), eI C 12 (M 5)), ((af 1), .inr (5, [.long ((f5_add_T T1 ((f2_second M model k).toInt64) ((f2_third M model k).toInt64) 1) 0), .long ((f5_add_T T1 ((f2_second M model k).toInt64) ((f2_third M model k).toInt64) 1) 1), .long ((f5_add_T T1 ((f2_second M model k).toInt64) ((f2_third M model k).toInt64) 1) 2), .long ((f5_add_T T1 ((f2_second M model k).toInt64) ((f2_third M model k).toInt64) 1) 3), .long ((f5_add_T T1 ((f2_second M model k).toInt64) ((f2_third M model k).toInt64) 1) 4), .long ((f5_add_T T1 ((f2_second M model k).toInt64) ((f2_third M model k).toInt64) 1) 5), .long ((f5_add_T T1 ((f2_second M model k).toInt64) ((f2_third M model k).toInt64) 1) 6), .long ((f5_add_T T1 ((f2_second M model k).toInt64) ((f2_third M model k).toInt64) 1) 7), .long ((f5_add_T T1 ((f2_second M model k).toInt64) ((f2_third M model k).toInt64) 1) 8), .long ((f5_add_T T1 ((f2_second M model k).toInt64) ((f2_third M model k).toInt64) 1) 9), .long ((f5_add_T T1 ((f2_second M model k).toInt64) ((f2_third M model k).toInt64) 1) 10), .long ((f5_add_T T1 ((f2_second M model k).toInt64) ((f2_third M model k).toInt64) 1) 11), .long ((f5_add_T T1 ((f2_second M model k).toInt64) ((f2_third M model k).toInt64) 1) 12)]))] := hD
        refine lv_iinc (v := nI k + 1) (lv' := [(4, .int (nI k + 1)), (0, .ref (af 0)), (1, .ref (am 0)), (2, .int model), (3, .int set)]) hx hb dX1_make_67 hl (k := 4) rfl rfl (by decide) rfl (fun ls hl => ?_)
        refine lv_goto (tgt := 19) hx hb dX1_make_70 (by decide) ?_
        rw [nI_1] at hl
        exact ih19 (k := k + 1) (T1 := (f5_add_T T1 ((f2_second M model k).toInt64) ((f2_third M model k).toInt64) 1)) (ls := ls) (H := H) (locs := locs) ⟨by omega, by rw [← h19_1, mkT, if_neg c_7], lv_sub hl [1, 2, 3, 4, 0] rfl, hP, hD, hS⟩

def f1_rest (rd : Nat → Int32) (fac T : Nat → Int64) (M : Nat → Nat → Int32) (model : Int32) (k : Nat) : Int64 := (rd k).toInt64 * T 12 - (fac 0 + fac 1 * (f2_second M model k).toInt64 + fac 2 * (f2_third M model k).toInt64)
def f1_great (F : Nat → Nat → Int64) (M : Nat → Nat → Int32) (model : Int32) (k : Nat) : Int64 := maxL (absL (f1_rest (M 4) (F 3) (F 0) M model k)) (absL (f1_rest (M 5) (F 4) (F 0) M model k))
def f1_sq (T s f : Nat → Int64) : Int64 := s 3 * T 12 - f 0 * s 0 - f 1 * s 1 - f 2 * s 2

set_option maxHeartbeats 4000000 in
set_option maxRecDepth 100000 in
theorem kX1_restOf_0 (l : Launch) (D : va_G) (C : Nat → ClassId) (af : Nat → Nat) (F : Nat → Nat → Int64) (fm : Int32) (am : Nat → Nat) (M : Nat → Nat → Int32) (k : Nat) (hk : k < 12) : Rl l D C yX1_restOf cX1_restOf 7 1 [.ref (af 0), .ref (am 0), .int 0, .int (nI k)] ((wF af C F fm) ++ (wM am C M)) (f1_rest (M 4) (F 3) (F 0) M fm k) := by
  refine Met.ofW (cc := cX1_restOf) (maxL := 7) (ret := (some .long)) (by decide) rfl ?_
  intro p e s m args below meth c s₁ B hml hv
  obtain ⟨rfl, hP, hK, hNw⟩ := hv
  have hx := B.exec
  have hb := B.bytes
  have hr := B.returns
  have hts := atoms_spec (ws := wm yX1_restOf cX1_restOf 7 (some .long)) B.pre
  have hown : s.vm.findClass RX1 = some m.cls := findClass_of_methodNamed B.named
  have hlocks := B.notSynchronized
  have hW : ∀ w ∈ WA, w.before _ s = true := fun w h => hts w (List.mem_cons_of_mem _ h)
  have hP : va_P D vwCl [((af 0), .inr (1, [.ref (af 1), .ref (af 2), .ref (af 5), .int fm])), ((af 1), .inr (5, [.long (F 0 0), .long (F 0 1), .long (F 0 2), .long (F 0 3), .long (F 0 4), .long (F 0 5), .long (F 0 6), .long (F 0 7), .long (F 0 8), .long (F 0 9), .long (F 0 10), .long (F 0 11), .long (F 0 12)])), ((af 2), eJJ C 2 (rr af 3 2)), ((af 3), eJ C 4 (F 1)), ((af 4), eJ C 4 (F 2)), ((af 5), eJJ C 2 (rr af 6 2)), ((af 6), eJ C 3 (F 3)), ((af 7), eJ C 3 (F 4)), ((am 0), .inr (2, [.ref (am 1), .ref (am 2), .ref (am 3), .ref (am 4), .ref (am 5), .int (M 6 0), .int (M 6 1), .int (M 6 2)])), ((am 1), eI C 12 (M 0)), ((am 2), eI C 12 (M 1)), ((am 3), eI C 12 (M 2)), ((am 4), eI C 12 (M 3)), ((am 5), eII C 2 (rr am 6 2)), ((am 6), eI C 12 (M 4)), ((am 7), eI C 12 (M 5))] s.heap := hP
  have hl := lv_entry ([.ref (af 0), .ref (am 0), .int 0, .int (nI k)]) (n := 7) (Nat.le_of_ble_eq_true rfl)
  rw [lg_entry_eq]
  generalize (lg_sl ([.ref (af 0), .ref (am 0), .int 0, .int (nI k)]) ++ List.replicate (7 - (lg_sl ([.ref (af 0), .ref (am 0), .int 0, .int (nI k)])).length) Slot.unset).toArray = ls at hl ⊢
  have hl : lv_has ls 7 [(0, .ref (af 0)), (1, .ref (am 0)), (2, .int 0), (3, .int (nI k))] := hl
  refine lv_aload_n hx hb dX1_restOf_0 rfl (lv_at hl 0 rfl) ?_
  refine va_get (D := D) (ci := 1) (C := RX1) (T := TX1) (N := 4) hx hb hW inX1 hown hK hP 0 rfl rfl 2 (by decide) (hW _ (wa tw131 rfl)) (fun _ h9 => h9) rfl dX1_restOf_1 ?_
  refine lv_iload_n hx hb dX1_restOf_4 rfl (lv_at hl 2 rfl) ?_
  refine xaaldJ hx hb hK hP 5 rfl 0 (nI_lit 0) (by decide) (by decide) (b := (af 6)) rfl dX1_restOf_5 ?_
  refine lv_astore (lv' := [(4, .ref (af 6)), (0, .ref (af 0)), (1, .ref (am 0)), (2, .int 0), (3, .int (nI k))]) hx hb dX1_restOf_6 hl (by decide) rfl (fun ls hl => ?_)
  refine lv_aload hx hb dX1_restOf_8 (lv_at hl 0 rfl) ?_
  refine lv_iconst (v := 0) hx hb dX1_restOf_10 (by decide) ?_
  refine xlald hx hb hK hP 6 rfl 0 (nI_lit 0) (by decide) (by decide) dX1_restOf_11 ?_
  refine lv_aload hx hb dX1_restOf_12 (lv_at hl 0 rfl) ?_
  refine lv_iconst (v := 1) hx hb dX1_restOf_14 (by decide) ?_
  refine xlald hx hb hK hP 6 rfl 1 (nI_lit 1) (by decide) (by decide) dX1_restOf_15 ?_
  refine lv_aload_n hx hb dX1_restOf_16 rfl (lv_at hl 2 rfl) ?_
  refine lv_aload_n hx hb dX1_restOf_17 rfl (lv_at hl 1 rfl) ?_
  refine va_get (D := D) (ci := 1) (C := RX1) (T := TX1) (N := 4) hx hb hW inX1 hown hK hP 0 rfl rfl 3 (by decide) (hW _ (wa tw133 rfl)) (fun _ h9 => h9) rfl dX1_restOf_18 ?_
  refine lv_iload_n hx hb dX1_restOf_21 rfl (lv_at hl 4 rfl) ?_
  refine xri (r := f2_second M fm k) (rVN (As := [.int fm, .int (nI k)]) (n := 2) (rest := [.long ((F 3) 1), .long ((F 3) 0)]) ⟨hx, hb, hml, hown, hW⟩ (kX2_secondTerm l D C am M fm k (by omega)) (wa tw343 rfl) (hNw _ tw340 rfl) (wa tw342 rfl) (was ts11 rfl) (wa tw2 rfl) (by decide +kernel) ⟨Nat.le_of_ble_eq_true rfl, Nat.le_of_ble_eq_true rfl⟩ (pVr (hP.sub [8, 9, 10, 11, 12, 13, 14, 15] rfl) hK hNw 0 rfl rfl) hl.1 rfl (Nat.le_of_ble_eq_true rfl) dX1_restOf_22 ⟨Nat.le_of_ble_eq_true rfl, Nat.le_of_ble_eq_true rfl⟩ rfl rfl rfl) ?_
  refine lv_i2l (v := (f2_second M fm k).toInt64) hx hb dX1_restOf_25 rfl ?_
  refine lv_lmul hx hb dX1_restOf_26 ?_
  refine lv_ladd hx hb dX1_restOf_27 ?_
  refine lv_aload hx hb dX1_restOf_28 (lv_at hl 0 rfl) ?_
  refine lv_iconst (v := 2) hx hb dX1_restOf_30 (by decide) ?_
  refine xlald hx hb hK hP 6 rfl 2 (nI_lit 2) (by decide) (by decide) dX1_restOf_31 ?_
  refine lv_aload_n hx hb dX1_restOf_32 rfl (lv_at hl 2 rfl) ?_
  refine lv_aload_n hx hb dX1_restOf_33 rfl (lv_at hl 1 rfl) ?_
  refine va_get (D := D) (ci := 1) (C := RX1) (T := TX1) (N := 4) hx hb hW inX1 hown hK hP 0 rfl rfl 3 (by decide) (hW _ (wa tw133 rfl)) (fun _ h9 => h9) rfl dX1_restOf_34 ?_
  refine lv_iload_n hx hb dX1_restOf_37 rfl (lv_at hl 4 rfl) ?_
  refine xri (r := f2_third M fm k) (rVN (As := [.int fm, .int (nI k)]) (n := 2) (rest := [.long ((F 3) 2), .long (((F 3) 0) + (((F 3) 1) * ((f2_second M fm k).toInt64)))]) ⟨hx, hb, hml, hown, hW⟩ (kX2_thirdTerm l D C am M fm k (by omega)) (wa tw347 rfl) (hNw _ tw344 rfl) (wa tw346 rfl) (was ts12 rfl) (wa tw2 rfl) (by decide +kernel) ⟨Nat.le_of_ble_eq_true rfl, Nat.le_of_ble_eq_true rfl⟩ (pVr (hP.sub [8, 9, 10, 11, 12, 13, 14, 15] rfl) hK hNw 0 rfl rfl) hl.1 rfl (Nat.le_of_ble_eq_true rfl) dX1_restOf_38 ⟨Nat.le_of_ble_eq_true rfl, Nat.le_of_ble_eq_true rfl⟩ rfl rfl rfl) ?_
  refine lv_i2l (v := (f2_third M fm k).toInt64) hx hb dX1_restOf_41 rfl ?_
  refine lv_lmul hx hb dX1_restOf_42 ?_
  refine lv_ladd hx hb dX1_restOf_43 ?_
  refine lv_lstore (lv' := [(5, .long ((((F 3) 0) + (((F 3) 1) * ((f2_second M fm k).toInt64))) + (((F 3) 2) * ((f2_third M fm k).toInt64)))), (4, .ref (af 6)), (0, .ref (af 0)), (1, .ref (am 0)), (2, .int 0), (3, .int (nI k))]) hx hb dX1_restOf_44 hl (by decide) rfl (fun ls hl => ?_)
  refine lv_aload_n hx hb dX1_restOf_46 rfl (lv_at hl 3 rfl) ?_
  refine va_getN (D := D) (host := "FieldAfterField") (ci := 2) (C := RX2) (T := TX2) (N := 8) hx hb hW inX2 hown hK hP 8 rfl rfl 4 (by decide) (va_Nw.use rfl (hNw _ tw37 rfl)) (fun _ h9 => h9) rfl dX1_restOf_47 ?_
  refine lv_iload_n hx hb dX1_restOf_50 rfl (lv_at hl 4 rfl) ?_
  refine xaaldI hx hb hK hP 13 rfl 0 (nI_lit 0) (by decide) (by decide) (b := (am 6)) rfl dX1_restOf_51 ?_
  refine lv_iload_n hx hb dX1_restOf_52 rfl (lv_at hl 5 rfl) ?_
  refine xiald hx hb hK hP 14 rfl k rfl (by omega) (by decide) dX1_restOf_53 ?_
  refine lv_i2l (v := ((M 4) k).toInt64) hx hb dX1_restOf_54 rfl ?_
  refine lv_aload_n hx hb dX1_restOf_55 rfl (lv_at hl 2 rfl) ?_
  refine va_get (D := D) (ci := 1) (C := RX1) (T := TX1) (N := 4) hx hb hW inX1 hown hK hP 0 rfl rfl 0 (by decide) (hW _ (wa tw128 rfl)) (fun _ h9 => h9) rfl dX1_restOf_56 ?_
  refine va_getN (D := D) (host := "FieldAfterField") (ci := 5) (C := RX5) (T := TX5) (N := 13) hx hb hW inX5 hown hK hP 1 rfl rfl 12 (by decide) (va_Nw.use rfl (hNw _ tw95 rfl)) (fun _ h9 => h9) rfl dX1_restOf_59 ?_
  refine lv_lmul hx hb dX1_restOf_62 ?_
  refine lv_lload hx hb dX1_restOf_63 (lv_at hl 0 rfl) ?_
  refine lv_lsub hx hb dX1_restOf_65 ?_
  exact W.lret (v := ((((M 4) k).toInt64) * (F 0 12)) - ((((F 3) 0) + (((F 3) 1) * ((f2_second M fm k).toInt64))) + (((F 3) 2) * ((f2_third M fm k).toInt64)))) hx hb hr (fun t ht _ => ⟨_, rfl, rfl, ht⟩) (fun q h => by cases h) dX1_restOf_66

set_option maxHeartbeats 4000000 in
set_option maxRecDepth 100000 in
theorem kX1_sumOfSquares_0 (l : Launch) (D : va_G) (C : Nat → ClassId) (af : Nat → Nat) (F : Nat → Nat → Int64) (fm : Int32)   : Rl l D C yX1_sumOfSquares cX1_sumOfSquares 4 0 [.ref (af 0), .int 0] (wF af C F fm) (f1_sq (F 0) (F 1) (F 3)) := by
  refine Met.ofW (cc := cX1_sumOfSquares) (maxL := 4) (ret := (some .long)) (by decide) rfl ?_
  intro p e s m args below meth c s₁ B hml hv
  obtain ⟨rfl, hP, hK, hNw⟩ := hv
  have hx := B.exec
  have hb := B.bytes
  have hr := B.returns
  have hts := atoms_spec (ws := wm yX1_sumOfSquares cX1_sumOfSquares 4 (some .long)) B.pre
  have hown : s.vm.findClass RX1 = some m.cls := findClass_of_methodNamed B.named
  have hlocks := B.notSynchronized
  have hW : ∀ w ∈ WA, w.before _ s = true := fun w h => hts w (List.mem_cons_of_mem _ h)
  have hP : va_P D vwCl [((af 0), .inr (1, [.ref (af 1), .ref (af 2), .ref (af 5), .int fm])), ((af 1), .inr (5, [.long (F 0 0), .long (F 0 1), .long (F 0 2), .long (F 0 3), .long (F 0 4), .long (F 0 5), .long (F 0 6), .long (F 0 7), .long (F 0 8), .long (F 0 9), .long (F 0 10), .long (F 0 11), .long (F 0 12)])), ((af 2), eJJ C 2 (rr af 3 2)), ((af 3), eJ C 4 (F 1)), ((af 4), eJ C 4 (F 2)), ((af 5), eJJ C 2 (rr af 6 2)), ((af 6), eJ C 3 (F 3)), ((af 7), eJ C 3 (F 4))] s.heap := hP
  have hl := lv_entry ([.ref (af 0), .int 0]) (n := 4) (Nat.le_of_ble_eq_true rfl)
  rw [lg_entry_eq]
  generalize (lg_sl ([.ref (af 0), .int 0]) ++ List.replicate (4 - (lg_sl ([.ref (af 0), .int 0])).length) Slot.unset).toArray = ls at hl ⊢
  have hl : lv_has ls 4 [(0, .ref (af 0)), (1, .int 0)] := hl
  refine lv_aload_n hx hb dX1_sumOfSquares_0 rfl (lv_at hl 0 rfl) ?_
  refine va_get (D := D) (ci := 1) (C := RX1) (T := TX1) (N := 4) hx hb hW inX1 hown hK hP 0 rfl rfl 1 (by decide) (hW _ (wa tw130 rfl)) (fun _ h9 => h9) rfl dX1_sumOfSquares_1 ?_
  refine lv_iload_n hx hb dX1_sumOfSquares_4 rfl (lv_at hl 1 rfl) ?_
  refine xaaldJ hx hb hK hP 2 rfl 0 (nI_lit 0) (by decide) (by decide) (b := (af 3)) rfl dX1_sumOfSquares_5 ?_
  refine lv_astore_n (lv' := [(2, .ref (af 3)), (0, .ref (af 0)), (1, .int 0)]) hx hb dX1_sumOfSquares_6 rfl hl (by decide) rfl (fun ls hl => ?_)
  refine lv_aload_n hx hb dX1_sumOfSquares_7 rfl (lv_at hl 1 rfl) ?_
  refine va_get (D := D) (ci := 1) (C := RX1) (T := TX1) (N := 4) hx hb hW inX1 hown hK hP 0 rfl rfl 2 (by decide) (hW _ (wa tw131 rfl)) (fun _ h9 => h9) rfl dX1_sumOfSquares_8 ?_
  refine lv_iload_n hx hb dX1_sumOfSquares_11 rfl (lv_at hl 2 rfl) ?_
  refine xaaldJ hx hb hK hP 5 rfl 0 (nI_lit 0) (by decide) (by decide) (b := (af 6)) rfl dX1_sumOfSquares_12 ?_
  refine lv_astore_n (lv' := [(3, .ref (af 6)), (2, .ref (af 3)), (0, .ref (af 0)), (1, .int 0)]) hx hb dX1_sumOfSquares_13 rfl hl (by decide) rfl (fun ls hl => ?_)
  refine lv_aload_n hx hb dX1_sumOfSquares_14 rfl (lv_at hl 1 rfl) ?_
  refine lv_iconst (v := 3) hx hb dX1_sumOfSquares_15 (by decide) ?_
  refine xlald hx hb hK hP 3 rfl 3 (nI_lit 3) (by decide) (by decide) dX1_sumOfSquares_16 ?_
  refine lv_aload_n hx hb dX1_sumOfSquares_17 rfl (lv_at hl 2 rfl) ?_
  refine va_get (D := D) (ci := 1) (C := RX1) (T := TX1) (N := 4) hx hb hW inX1 hown hK hP 0 rfl rfl 0 (by decide) (hW _ (wa tw128 rfl)) (fun _ h9 => h9) rfl dX1_sumOfSquares_18 ?_
  refine va_getN (D := D) (host := "FieldAfterField") (ci := 5) (C := RX5) (T := TX5) (N := 13) hx hb hW inX5 hown hK hP 1 rfl rfl 12 (by decide) (va_Nw.use rfl (hNw _ tw95 rfl)) (fun _ h9 => h9) rfl dX1_sumOfSquares_21 ?_
  refine lv_lmul hx hb dX1_sumOfSquares_24 ?_
  refine lv_aload_n hx hb dX1_sumOfSquares_25 rfl (lv_at hl 0 rfl) ?_
  refine lv_iconst (v := 0) hx hb dX1_sumOfSquares_26 (by decide) ?_
  refine xlald hx hb hK hP 6 rfl 0 (nI_lit 0) (by decide) (by decide) dX1_sumOfSquares_27 ?_
  refine lv_aload_n hx hb dX1_sumOfSquares_28 rfl (lv_at hl 1 rfl) ?_
  refine lv_iconst (v := 0) hx hb dX1_sumOfSquares_29 (by decide) ?_
  refine xlald hx hb hK hP 3 rfl 0 (nI_lit 0) (by decide) (by decide) dX1_sumOfSquares_30 ?_
  refine lv_lmul hx hb dX1_sumOfSquares_31 ?_
  refine lv_lsub hx hb dX1_sumOfSquares_32 ?_
  refine lv_aload_n hx hb dX1_sumOfSquares_33 rfl (lv_at hl 0 rfl) ?_
  refine lv_iconst (v := 1) hx hb dX1_sumOfSquares_34 (by decide) ?_
  refine xlald hx hb hK hP 6 rfl 1 (nI_lit 1) (by decide) (by decide) dX1_sumOfSquares_35 ?_
  refine lv_aload_n hx hb dX1_sumOfSquares_36 rfl (lv_at hl 1 rfl) ?_
  refine lv_iconst (v := 1) hx hb dX1_sumOfSquares_37 (by decide) ?_
  refine xlald hx hb hK hP 3 rfl 1 (nI_lit 1) (by decide) (by decide) dX1_sumOfSquares_38 ?_
  refine lv_lmul hx hb dX1_sumOfSquares_39 ?_
  refine lv_lsub hx hb dX1_sumOfSquares_40 ?_
  refine lv_aload_n hx hb dX1_sumOfSquares_41 rfl (lv_at hl 0 rfl) ?_
  refine lv_iconst (v := 2) hx hb dX1_sumOfSquares_42 (by decide) ?_
  refine xlald hx hb hK hP 6 rfl 2 (nI_lit 2) (by decide) (by decide) dX1_sumOfSquares_43 ?_
  refine lv_aload_n hx hb dX1_sumOfSquares_44 rfl (lv_at hl 1 rfl) ?_
  refine lv_iconst (v := 2) hx hb dX1_sumOfSquares_45 (by decide) ?_
  refine xlald hx hb hK hP 3 rfl 2 (nI_lit 2) (by decide) (by decide) dX1_sumOfSquares_46 ?_
  refine lv_lmul hx hb dX1_sumOfSquares_47 ?_
  refine lv_lsub hx hb dX1_sumOfSquares_48 ?_
  exact W.lret (v := (((((F 1) 3) * (F 0 12)) - (((F 3) 0) * ((F 1) 0))) - (((F 3) 1) * ((F 1) 1))) - (((F 3) 2) * ((F 1) 2))) hx hb hr (fun t ht _ => ⟨_, rfl, rfl, ht⟩) (fun q h => by cases h) dX1_sumOfSquares_49

set_option maxHeartbeats 4000000 in
set_option maxRecDepth 100000 in
theorem kX1_restOf_1 (l : Launch) (D : va_G) (C : Nat → ClassId) (af : Nat → Nat) (F : Nat → Nat → Int64) (fm : Int32) (am : Nat → Nat) (M : Nat → Nat → Int32) (k : Nat) (hk : k < 12) : Rl l D C yX1_restOf cX1_restOf 7 1 [.ref (af 0), .ref (am 0), .int 1, .int (nI k)] ((wF af C F fm) ++ (wM am C M)) (f1_rest (M 5) (F 4) (F 0) M fm k) := by
  refine Met.ofW (cc := cX1_restOf) (maxL := 7) (ret := (some .long)) (by decide) rfl ?_
  intro p e s m args below meth c s₁ B hml hv
  obtain ⟨rfl, hP, hK, hNw⟩ := hv
  have hx := B.exec
  have hb := B.bytes
  have hr := B.returns
  have hts := atoms_spec (ws := wm yX1_restOf cX1_restOf 7 (some .long)) B.pre
  have hown : s.vm.findClass RX1 = some m.cls := findClass_of_methodNamed B.named
  have hlocks := B.notSynchronized
  have hW : ∀ w ∈ WA, w.before _ s = true := fun w h => hts w (List.mem_cons_of_mem _ h)
  have hP : va_P D vwCl [((af 0), .inr (1, [.ref (af 1), .ref (af 2), .ref (af 5), .int fm])), ((af 1), .inr (5, [.long (F 0 0), .long (F 0 1), .long (F 0 2), .long (F 0 3), .long (F 0 4), .long (F 0 5), .long (F 0 6), .long (F 0 7), .long (F 0 8), .long (F 0 9), .long (F 0 10), .long (F 0 11), .long (F 0 12)])), ((af 2), eJJ C 2 (rr af 3 2)), ((af 3), eJ C 4 (F 1)), ((af 4), eJ C 4 (F 2)), ((af 5), eJJ C 2 (rr af 6 2)), ((af 6), eJ C 3 (F 3)), ((af 7), eJ C 3 (F 4)), ((am 0), .inr (2, [.ref (am 1), .ref (am 2), .ref (am 3), .ref (am 4), .ref (am 5), .int (M 6 0), .int (M 6 1), .int (M 6 2)])), ((am 1), eI C 12 (M 0)), ((am 2), eI C 12 (M 1)), ((am 3), eI C 12 (M 2)), ((am 4), eI C 12 (M 3)), ((am 5), eII C 2 (rr am 6 2)), ((am 6), eI C 12 (M 4)), ((am 7), eI C 12 (M 5))] s.heap := hP
  have hl := lv_entry ([.ref (af 0), .ref (am 0), .int 1, .int (nI k)]) (n := 7) (Nat.le_of_ble_eq_true rfl)
  rw [lg_entry_eq]
  generalize (lg_sl ([.ref (af 0), .ref (am 0), .int 1, .int (nI k)]) ++ List.replicate (7 - (lg_sl ([.ref (af 0), .ref (am 0), .int 1, .int (nI k)])).length) Slot.unset).toArray = ls at hl ⊢
  have hl : lv_has ls 7 [(0, .ref (af 0)), (1, .ref (am 0)), (2, .int 1), (3, .int (nI k))] := hl
  refine lv_aload_n hx hb dX1_restOf_0 rfl (lv_at hl 0 rfl) ?_
  refine va_get (D := D) (ci := 1) (C := RX1) (T := TX1) (N := 4) hx hb hW inX1 hown hK hP 0 rfl rfl 2 (by decide) (hW _ (wa tw131 rfl)) (fun _ h9 => h9) rfl dX1_restOf_1 ?_
  refine lv_iload_n hx hb dX1_restOf_4 rfl (lv_at hl 2 rfl) ?_
  refine xaaldJ hx hb hK hP 5 rfl 1 (nI_lit 1) (by decide) (by decide) (b := (af 7)) rfl dX1_restOf_5 ?_
  refine lv_astore (lv' := [(4, .ref (af 7)), (0, .ref (af 0)), (1, .ref (am 0)), (2, .int 1), (3, .int (nI k))]) hx hb dX1_restOf_6 hl (by decide) rfl (fun ls hl => ?_)
  refine lv_aload hx hb dX1_restOf_8 (lv_at hl 0 rfl) ?_
  refine lv_iconst (v := 0) hx hb dX1_restOf_10 (by decide) ?_
  refine xlald hx hb hK hP 7 rfl 0 (nI_lit 0) (by decide) (by decide) dX1_restOf_11 ?_
  refine lv_aload hx hb dX1_restOf_12 (lv_at hl 0 rfl) ?_
  refine lv_iconst (v := 1) hx hb dX1_restOf_14 (by decide) ?_
  refine xlald hx hb hK hP 7 rfl 1 (nI_lit 1) (by decide) (by decide) dX1_restOf_15 ?_
  refine lv_aload_n hx hb dX1_restOf_16 rfl (lv_at hl 2 rfl) ?_
  refine lv_aload_n hx hb dX1_restOf_17 rfl (lv_at hl 1 rfl) ?_
  refine va_get (D := D) (ci := 1) (C := RX1) (T := TX1) (N := 4) hx hb hW inX1 hown hK hP 0 rfl rfl 3 (by decide) (hW _ (wa tw133 rfl)) (fun _ h9 => h9) rfl dX1_restOf_18 ?_
  refine lv_iload_n hx hb dX1_restOf_21 rfl (lv_at hl 4 rfl) ?_
  refine xri (r := f2_second M fm k) (rVN (As := [.int fm, .int (nI k)]) (n := 2) (rest := [.long ((F 4) 1), .long ((F 4) 0)]) ⟨hx, hb, hml, hown, hW⟩ (kX2_secondTerm l D C am M fm k (by omega)) (wa tw343 rfl) (hNw _ tw340 rfl) (wa tw342 rfl) (was ts11 rfl) (wa tw2 rfl) (by decide +kernel) ⟨Nat.le_of_ble_eq_true rfl, Nat.le_of_ble_eq_true rfl⟩ (pVr (hP.sub [8, 9, 10, 11, 12, 13, 14, 15] rfl) hK hNw 0 rfl rfl) hl.1 rfl (Nat.le_of_ble_eq_true rfl) dX1_restOf_22 ⟨Nat.le_of_ble_eq_true rfl, Nat.le_of_ble_eq_true rfl⟩ rfl rfl rfl) ?_
  refine lv_i2l (v := (f2_second M fm k).toInt64) hx hb dX1_restOf_25 rfl ?_
  refine lv_lmul hx hb dX1_restOf_26 ?_
  refine lv_ladd hx hb dX1_restOf_27 ?_
  refine lv_aload hx hb dX1_restOf_28 (lv_at hl 0 rfl) ?_
  refine lv_iconst (v := 2) hx hb dX1_restOf_30 (by decide) ?_
  refine xlald hx hb hK hP 7 rfl 2 (nI_lit 2) (by decide) (by decide) dX1_restOf_31 ?_
  refine lv_aload_n hx hb dX1_restOf_32 rfl (lv_at hl 2 rfl) ?_
  refine lv_aload_n hx hb dX1_restOf_33 rfl (lv_at hl 1 rfl) ?_
  refine va_get (D := D) (ci := 1) (C := RX1) (T := TX1) (N := 4) hx hb hW inX1 hown hK hP 0 rfl rfl 3 (by decide) (hW _ (wa tw133 rfl)) (fun _ h9 => h9) rfl dX1_restOf_34 ?_
  refine lv_iload_n hx hb dX1_restOf_37 rfl (lv_at hl 4 rfl) ?_
  refine xri (r := f2_third M fm k) (rVN (As := [.int fm, .int (nI k)]) (n := 2) (rest := [.long ((F 4) 2), .long (((F 4) 0) + (((F 4) 1) * ((f2_second M fm k).toInt64)))]) ⟨hx, hb, hml, hown, hW⟩ (kX2_thirdTerm l D C am M fm k (by omega)) (wa tw347 rfl) (hNw _ tw344 rfl) (wa tw346 rfl) (was ts12 rfl) (wa tw2 rfl) (by decide +kernel) ⟨Nat.le_of_ble_eq_true rfl, Nat.le_of_ble_eq_true rfl⟩ (pVr (hP.sub [8, 9, 10, 11, 12, 13, 14, 15] rfl) hK hNw 0 rfl rfl) hl.1 rfl (Nat.le_of_ble_eq_true rfl) dX1_restOf_38 ⟨Nat.le_of_ble_eq_true rfl, Nat.le_of_ble_eq_true rfl⟩ rfl rfl rfl) ?_
  refine lv_i2l (v := (f2_third M fm k).toInt64) hx hb dX1_restOf_41 rfl ?_
  refine lv_lmul hx hb dX1_restOf_42 ?_
  refine lv_ladd hx hb dX1_restOf_43 ?_
  refine lv_lstore (lv' := [(5, .long ((((F 4) 0) + (((F 4) 1) * ((f2_second M fm k).toInt64))) + (((F 4) 2) * ((f2_third M fm k).toInt64)))), (4, .ref (af 7)), (0, .ref (af 0)), (1, .ref (am 0)), (2, .int 1), (3, .int (nI k))]) hx hb dX1_restOf_44 hl (by decide) rfl (fun ls hl => ?_)
  refine lv_aload_n hx hb dX1_restOf_46 rfl (lv_at hl 3 rfl) ?_
  refine va_getN (D := D) (host := "FieldAfterField") (ci := 2) (C := RX2) (T := TX2) (N := 8) hx hb hW inX2 hown hK hP 8 rfl rfl 4 (by decide) (va_Nw.use rfl (hNw _ tw37 rfl)) (fun _ h9 => h9) rfl dX1_restOf_47 ?_
  refine lv_iload_n hx hb dX1_restOf_50 rfl (lv_at hl 4 rfl) ?_
  refine xaaldI hx hb hK hP 13 rfl 1 (nI_lit 1) (by decide) (by decide) (b := (am 7)) rfl dX1_restOf_51 ?_
  refine lv_iload_n hx hb dX1_restOf_52 rfl (lv_at hl 5 rfl) ?_
  refine xiald hx hb hK hP 15 rfl k rfl (by omega) (by decide) dX1_restOf_53 ?_
  refine lv_i2l (v := ((M 5) k).toInt64) hx hb dX1_restOf_54 rfl ?_
  refine lv_aload_n hx hb dX1_restOf_55 rfl (lv_at hl 2 rfl) ?_
  refine va_get (D := D) (ci := 1) (C := RX1) (T := TX1) (N := 4) hx hb hW inX1 hown hK hP 0 rfl rfl 0 (by decide) (hW _ (wa tw128 rfl)) (fun _ h9 => h9) rfl dX1_restOf_56 ?_
  refine va_getN (D := D) (host := "FieldAfterField") (ci := 5) (C := RX5) (T := TX5) (N := 13) hx hb hW inX5 hown hK hP 1 rfl rfl 12 (by decide) (va_Nw.use rfl (hNw _ tw95 rfl)) (fun _ h9 => h9) rfl dX1_restOf_59 ?_
  refine lv_lmul hx hb dX1_restOf_62 ?_
  refine lv_lload hx hb dX1_restOf_63 (lv_at hl 0 rfl) ?_
  refine lv_lsub hx hb dX1_restOf_65 ?_
  exact W.lret (v := ((((M 5) k).toInt64) * (F 0 12)) - ((((F 4) 0) + (((F 4) 1) * ((f2_second M fm k).toInt64))) + (((F 4) 2) * ((f2_third M fm k).toInt64)))) hx hb hr (fun t ht _ => ⟨_, rfl, rfl, ht⟩) (fun q h => by cases h) dX1_restOf_66

set_option maxHeartbeats 4000000 in
set_option maxRecDepth 100000 in
theorem kX1_sumOfSquares_1 (l : Launch) (D : va_G) (C : Nat → ClassId) (af : Nat → Nat) (F : Nat → Nat → Int64) (fm : Int32)   : Rl l D C yX1_sumOfSquares cX1_sumOfSquares 4 0 [.ref (af 0), .int 1] (wF af C F fm) (f1_sq (F 0) (F 2) (F 4)) := by
  refine Met.ofW (cc := cX1_sumOfSquares) (maxL := 4) (ret := (some .long)) (by decide) rfl ?_
  intro p e s m args below meth c s₁ B hml hv
  obtain ⟨rfl, hP, hK, hNw⟩ := hv
  have hx := B.exec
  have hb := B.bytes
  have hr := B.returns
  have hts := atoms_spec (ws := wm yX1_sumOfSquares cX1_sumOfSquares 4 (some .long)) B.pre
  have hown : s.vm.findClass RX1 = some m.cls := findClass_of_methodNamed B.named
  have hlocks := B.notSynchronized
  have hW : ∀ w ∈ WA, w.before _ s = true := fun w h => hts w (List.mem_cons_of_mem _ h)
  have hP : va_P D vwCl [((af 0), .inr (1, [.ref (af 1), .ref (af 2), .ref (af 5), .int fm])), ((af 1), .inr (5, [.long (F 0 0), .long (F 0 1), .long (F 0 2), .long (F 0 3), .long (F 0 4), .long (F 0 5), .long (F 0 6), .long (F 0 7), .long (F 0 8), .long (F 0 9), .long (F 0 10), .long (F 0 11), .long (F 0 12)])), ((af 2), eJJ C 2 (rr af 3 2)), ((af 3), eJ C 4 (F 1)), ((af 4), eJ C 4 (F 2)), ((af 5), eJJ C 2 (rr af 6 2)), ((af 6), eJ C 3 (F 3)), ((af 7), eJ C 3 (F 4))] s.heap := hP
  have hl := lv_entry ([.ref (af 0), .int 1]) (n := 4) (Nat.le_of_ble_eq_true rfl)
  rw [lg_entry_eq]
  generalize (lg_sl ([.ref (af 0), .int 1]) ++ List.replicate (4 - (lg_sl ([.ref (af 0), .int 1])).length) Slot.unset).toArray = ls at hl ⊢
  have hl : lv_has ls 4 [(0, .ref (af 0)), (1, .int 1)] := hl
  refine lv_aload_n hx hb dX1_sumOfSquares_0 rfl (lv_at hl 0 rfl) ?_
  refine va_get (D := D) (ci := 1) (C := RX1) (T := TX1) (N := 4) hx hb hW inX1 hown hK hP 0 rfl rfl 1 (by decide) (hW _ (wa tw130 rfl)) (fun _ h9 => h9) rfl dX1_sumOfSquares_1 ?_
  refine lv_iload_n hx hb dX1_sumOfSquares_4 rfl (lv_at hl 1 rfl) ?_
  refine xaaldJ hx hb hK hP 2 rfl 1 (nI_lit 1) (by decide) (by decide) (b := (af 4)) rfl dX1_sumOfSquares_5 ?_
  refine lv_astore_n (lv' := [(2, .ref (af 4)), (0, .ref (af 0)), (1, .int 1)]) hx hb dX1_sumOfSquares_6 rfl hl (by decide) rfl (fun ls hl => ?_)
  refine lv_aload_n hx hb dX1_sumOfSquares_7 rfl (lv_at hl 1 rfl) ?_
  refine va_get (D := D) (ci := 1) (C := RX1) (T := TX1) (N := 4) hx hb hW inX1 hown hK hP 0 rfl rfl 2 (by decide) (hW _ (wa tw131 rfl)) (fun _ h9 => h9) rfl dX1_sumOfSquares_8 ?_
  refine lv_iload_n hx hb dX1_sumOfSquares_11 rfl (lv_at hl 2 rfl) ?_
  refine xaaldJ hx hb hK hP 5 rfl 1 (nI_lit 1) (by decide) (by decide) (b := (af 7)) rfl dX1_sumOfSquares_12 ?_
  refine lv_astore_n (lv' := [(3, .ref (af 7)), (2, .ref (af 4)), (0, .ref (af 0)), (1, .int 1)]) hx hb dX1_sumOfSquares_13 rfl hl (by decide) rfl (fun ls hl => ?_)
  refine lv_aload_n hx hb dX1_sumOfSquares_14 rfl (lv_at hl 1 rfl) ?_
  refine lv_iconst (v := 3) hx hb dX1_sumOfSquares_15 (by decide) ?_
  refine xlald hx hb hK hP 4 rfl 3 (nI_lit 3) (by decide) (by decide) dX1_sumOfSquares_16 ?_
  refine lv_aload_n hx hb dX1_sumOfSquares_17 rfl (lv_at hl 2 rfl) ?_
  refine va_get (D := D) (ci := 1) (C := RX1) (T := TX1) (N := 4) hx hb hW inX1 hown hK hP 0 rfl rfl 0 (by decide) (hW _ (wa tw128 rfl)) (fun _ h9 => h9) rfl dX1_sumOfSquares_18 ?_
  refine va_getN (D := D) (host := "FieldAfterField") (ci := 5) (C := RX5) (T := TX5) (N := 13) hx hb hW inX5 hown hK hP 1 rfl rfl 12 (by decide) (va_Nw.use rfl (hNw _ tw95 rfl)) (fun _ h9 => h9) rfl dX1_sumOfSquares_21 ?_
  refine lv_lmul hx hb dX1_sumOfSquares_24 ?_
  refine lv_aload_n hx hb dX1_sumOfSquares_25 rfl (lv_at hl 0 rfl) ?_
  refine lv_iconst (v := 0) hx hb dX1_sumOfSquares_26 (by decide) ?_
  refine xlald hx hb hK hP 7 rfl 0 (nI_lit 0) (by decide) (by decide) dX1_sumOfSquares_27 ?_
  refine lv_aload_n hx hb dX1_sumOfSquares_28 rfl (lv_at hl 1 rfl) ?_
  refine lv_iconst (v := 0) hx hb dX1_sumOfSquares_29 (by decide) ?_
  refine xlald hx hb hK hP 4 rfl 0 (nI_lit 0) (by decide) (by decide) dX1_sumOfSquares_30 ?_
  refine lv_lmul hx hb dX1_sumOfSquares_31 ?_
  refine lv_lsub hx hb dX1_sumOfSquares_32 ?_
  refine lv_aload_n hx hb dX1_sumOfSquares_33 rfl (lv_at hl 0 rfl) ?_
  refine lv_iconst (v := 1) hx hb dX1_sumOfSquares_34 (by decide) ?_
  refine xlald hx hb hK hP 7 rfl 1 (nI_lit 1) (by decide) (by decide) dX1_sumOfSquares_35 ?_
  refine lv_aload_n hx hb dX1_sumOfSquares_36 rfl (lv_at hl 1 rfl) ?_
  refine lv_iconst (v := 1) hx hb dX1_sumOfSquares_37 (by decide) ?_
  refine xlald hx hb hK hP 4 rfl 1 (nI_lit 1) (by decide) (by decide) dX1_sumOfSquares_38 ?_
  refine lv_lmul hx hb dX1_sumOfSquares_39 ?_
  refine lv_lsub hx hb dX1_sumOfSquares_40 ?_
  refine lv_aload_n hx hb dX1_sumOfSquares_41 rfl (lv_at hl 0 rfl) ?_
  refine lv_iconst (v := 2) hx hb dX1_sumOfSquares_42 (by decide) ?_
  refine xlald hx hb hK hP 7 rfl 2 (nI_lit 2) (by decide) (by decide) dX1_sumOfSquares_43 ?_
  refine lv_aload_n hx hb dX1_sumOfSquares_44 rfl (lv_at hl 1 rfl) ?_
  refine lv_iconst (v := 2) hx hb dX1_sumOfSquares_45 (by decide) ?_
  refine xlald hx hb hK hP 4 rfl 2 (nI_lit 2) (by decide) (by decide) dX1_sumOfSquares_46 ?_
  refine lv_lmul hx hb dX1_sumOfSquares_47 ?_
  refine lv_lsub hx hb dX1_sumOfSquares_48 ?_
  exact W.lret (v := (((((F 2) 3) * (F 0 12)) - (((F 4) 0) * ((F 2) 0))) - (((F 4) 1) * ((F 2) 1))) - (((F 4) 2) * ((F 2) 2))) hx hb hr (fun t ht _ => ⟨_, rfl, rfl, ht⟩) (fun q h => by cases h) dX1_sumOfSquares_49

set_option maxHeartbeats 4000000 in
set_option maxRecDepth 100000 in
theorem kX1_greaterRestOf (l : Launch) (D : va_G) (C : Nat → ClassId) (af : Nat → Nat) (F : Nat → Nat → Int64) (fm : Int32) (am : Nat → Nat) (M : Nat → Nat → Int32) (k : Nat) (hk : k < 12) : Rl l D C yX1_greaterRestOf cX1_greaterRestOf 3 2 [.ref (af 0), .ref (am 0), .int (nI k)] ((wF af C F fm) ++ (wM am C M)) (f1_great F M fm k) := by
  refine Met.ofW (cc := cX1_greaterRestOf) (maxL := 3) (ret := (some .long)) (by decide) rfl ?_
  intro p e s m args below meth c s₁ B hml hv
  obtain ⟨rfl, hP, hK, hNw⟩ := hv
  have hx := B.exec
  have hb := B.bytes
  have hr := B.returns
  have hts := atoms_spec (ws := wm yX1_greaterRestOf cX1_greaterRestOf 3 (some .long)) B.pre
  have hown : s.vm.findClass RX1 = some m.cls := findClass_of_methodNamed B.named
  have hlocks := B.notSynchronized
  have hW : ∀ w ∈ WA, w.before _ s = true := fun w h => hts w (List.mem_cons_of_mem _ h)
  have hP : va_P D vwCl [((af 0), .inr (1, [.ref (af 1), .ref (af 2), .ref (af 5), .int fm])), ((af 1), .inr (5, [.long (F 0 0), .long (F 0 1), .long (F 0 2), .long (F 0 3), .long (F 0 4), .long (F 0 5), .long (F 0 6), .long (F 0 7), .long (F 0 8), .long (F 0 9), .long (F 0 10), .long (F 0 11), .long (F 0 12)])), ((af 2), eJJ C 2 (rr af 3 2)), ((af 3), eJ C 4 (F 1)), ((af 4), eJ C 4 (F 2)), ((af 5), eJJ C 2 (rr af 6 2)), ((af 6), eJ C 3 (F 3)), ((af 7), eJ C 3 (F 4)), ((am 0), .inr (2, [.ref (am 1), .ref (am 2), .ref (am 3), .ref (am 4), .ref (am 5), .int (M 6 0), .int (M 6 1), .int (M 6 2)])), ((am 1), eI C 12 (M 0)), ((am 2), eI C 12 (M 1)), ((am 3), eI C 12 (M 2)), ((am 4), eI C 12 (M 3)), ((am 5), eII C 2 (rr am 6 2)), ((am 6), eI C 12 (M 4)), ((am 7), eI C 12 (M 5))] s.heap := hP
  have hl := lv_entry ([.ref (af 0), .ref (am 0), .int (nI k)]) (n := 3) (Nat.le_of_ble_eq_true rfl)
  rw [lg_entry_eq]
  generalize (lg_sl ([.ref (af 0), .ref (am 0), .int (nI k)]) ++ List.replicate (3 - (lg_sl ([.ref (af 0), .ref (am 0), .int (nI k)])).length) Slot.unset).toArray = ls at hl ⊢
  have hl : lv_has ls 3 [(0, .ref (af 0)), (1, .ref (am 0)), (2, .int (nI k))] := hl
  refine lv_aload_n hx hb dX1_greaterRestOf_0 rfl (lv_at hl 0 rfl) ?_
  refine lv_aload_n hx hb dX1_greaterRestOf_1 rfl (lv_at hl 1 rfl) ?_
  refine lv_iconst (v := 0) hx hb dX1_greaterRestOf_2 (by decide) ?_
  refine lv_iload_n hx hb dX1_greaterRestOf_3 rfl (lv_at hl 2 rfl) ?_
  refine xrl (r := f1_rest (M 4) (F 3) (F 0) M fm k) (rV (As := [.ref (am 0), .int 0, .int (nI k)]) (n := 3) (rest := []) ⟨hx, hb, hml, hown, hW⟩ (kX1_restOf_0 l D C af F fm am M k (by omega)) (wa tw392 rfl) (wa tw421 rfl) (wa tw391 rfl) (was ts17 rfl) (wa tw3 rfl) (by decide +kernel) ⟨Nat.le_of_ble_eq_true rfl, Nat.le_of_ble_eq_true rfl⟩ (pVr hP hK hNw 0 rfl rfl) hl.1 rfl (Nat.le_of_ble_eq_true rfl) dX1_greaterRestOf_4 ⟨Nat.le_of_ble_eq_true rfl, Nat.le_of_ble_eq_true rfl⟩ rfl rfl rfl) ?_
  refine va_mabs_long hx hb (hml.trans hl.1.symm) hown (hW _ (wa tw422 rfl)) (hW _ (wa tw379 rfl)) (hW _ (wa tw10 rfl)) (hW _ (wa tw380 rfl)) (Nat.le_of_ble_eq_true rfl) (Nat.le_of_ble_eq_true rfl) (Nat.le_of_ble_eq_true rfl) (Nat.le_of_ble_eq_true rfl) dX1_greaterRestOf_7 ?_
  refine W.eq (g2 := F0 m 10 ls [.long (absL (f1_rest (M 4) (F 3) (F 0) M fm k))]) rfl ?_
  refine lv_aload_n hx hb dX1_greaterRestOf_10 rfl (lv_at hl 0 rfl) ?_
  refine lv_aload_n hx hb dX1_greaterRestOf_11 rfl (lv_at hl 1 rfl) ?_
  refine lv_iconst (v := 1) hx hb dX1_greaterRestOf_12 (by decide) ?_
  refine lv_iload_n hx hb dX1_greaterRestOf_13 rfl (lv_at hl 2 rfl) ?_
  refine xrl (r := f1_rest (M 5) (F 4) (F 0) M fm k) (rV (As := [.ref (am 0), .int 1, .int (nI k)]) (n := 3) (rest := [.long (absL (f1_rest (M 4) (F 3) (F 0) M fm k))]) ⟨hx, hb, hml, hown, hW⟩ (kX1_restOf_1 l D C af F fm am M k (by omega)) (wa tw392 rfl) (wa tw421 rfl) (wa tw391 rfl) (was ts17 rfl) (wa tw3 rfl) (by decide +kernel) ⟨Nat.le_of_ble_eq_true rfl, Nat.le_of_ble_eq_true rfl⟩ (pVr hP hK hNw 0 rfl rfl) hl.1 rfl (Nat.le_of_ble_eq_true rfl) dX1_greaterRestOf_14 ⟨Nat.le_of_ble_eq_true rfl, Nat.le_of_ble_eq_true rfl⟩ rfl rfl rfl) ?_
  refine va_mabs_long hx hb (hml.trans hl.1.symm) hown (hW _ (wa tw422 rfl)) (hW _ (wa tw379 rfl)) (hW _ (wa tw10 rfl)) (hW _ (wa tw380 rfl)) (Nat.le_of_ble_eq_true rfl) (Nat.le_of_ble_eq_true rfl) (Nat.le_of_ble_eq_true rfl) (Nat.le_of_ble_eq_true rfl) dX1_greaterRestOf_17 ?_
  refine W.eq (g2 := F0 m 20 ls [.long (absL (f1_rest (M 5) (F 4) (F 0) M fm k)), .long (absL (f1_rest (M 4) (F 3) (F 0) M fm k))]) rfl ?_
  refine va_mmax_long hx hb (hml.trans hl.1.symm) hown (hW _ (wa tw423 rfl)) (hW _ (wa tw424 rfl)) (hW _ (wa tw10 rfl)) (hW _ (wa tw425 rfl)) (Nat.le_of_ble_eq_true rfl) (Nat.le_of_ble_eq_true rfl) (Nat.le_of_ble_eq_true rfl) (Nat.le_of_ble_eq_true rfl) dX1_greaterRestOf_20 ?_
  refine W.eq (g2 := F0 m 23 ls [.long (maxL (absL (f1_rest (M 4) (F 3) (F 0) M fm k)) (absL (f1_rest (M 5) (F 4) (F 0) M fm k)))]) rfl ?_
  exact W.lret (v := maxL (absL (f1_rest (M 4) (F 3) (F 0) M fm k)) (absL (f1_rest (M 5) (F 4) (F 0) M fm k))) hx hb hr (fun t ht _ => ⟨_, rfl, rfl, ht⟩) (fun q h => by cases h) dX1_greaterRestOf_23

def abL (F : Nat → Nat → Int64) (M : Nat → Nat → Int32) (model set : Int32) (ld : Int64) : Nat → Nat → Int32 → Int32
  | 0, _, x => x
  | n + 1, k, x => if f6_isIn set (nI k) = 0 then abL F M model set ld n (k + 1) x else if f1_great F M model k ≤ ld then abL F M model set ld n (k + 1) x else abL F M model set ld n (k + 1) (x ||| ((1 : Int32) <<< (nI k &&& 31)))
def f1_above (F : Nat → Nat → Int64) (M : Nat → Nat → Int32) (model : Int32) (N : Nat) (set limit : Int32) : Int32 := abL F M model set (limit.toInt64 * F 0 12) N 0 0
def wsL (F : Nat → Nat → Int64) (M : Nat → Nat → Int32) (model set : Int32) : Nat → Nat → Int32 → Int64 → Int32
  | 0, _, b, _ => b
  | n + 1, k, b, v => if f6_isIn set (nI k) = 0 then wsL F M model set n (k + 1) b v else if f1_great F M model k ≤ v then wsL F M model set n (k + 1) b v else wsL F M model set n (k + 1) (nI k) (f1_great F M model k)
def f1_worst (F : Nat → Nat → Int64) (M : Nat → Nat → Int32) (model : Int32) (N : Nat) (set : Int32) : Int32 := wsL F M model set N 0 (-1) 0

set_option maxHeartbeats 4000000 in
set_option maxRecDepth 100000 in
theorem kX1_above (l : Launch) (D : va_G) (C : Nat → ClassId) (af : Nat → Nat) (F : Nat → Nat → Int64) (fm : Int32) (am : Nat → Nat) (M : Nat → Nat → Int32) (set limit : Int32) (N : Nat) (hN : M 6 0 = nI N) (hN12 : N ≤ 12) : Ri l D C yX1_above cX1_above 6 .int 3 [.ref (af 0), .ref (am 0), .int set, .int limit] ((wF af C F fm) ++ (wM am C M)) (f1_above F M fm N set limit) := by
  refine Met.ofW (cc := cX1_above) (maxL := 6) (ret := (some .int)) (by decide) rfl ?_
  intro p e s m args below meth c s₁ B hml hv
  obtain ⟨rfl, hP, hK, hNw⟩ := hv
  have hx := B.exec
  have hb := B.bytes
  have hr := B.returns
  have hts := atoms_spec (ws := wm yX1_above cX1_above 6 (some .int)) B.pre
  have hown : s.vm.findClass RX1 = some m.cls := findClass_of_methodNamed B.named
  have hlocks := B.notSynchronized
  have hW : ∀ w ∈ WA, w.before _ s = true := fun w h => hts w (List.mem_cons_of_mem _ h)
  have hP : va_P D vwCl [((af 0), .inr (1, [.ref (af 1), .ref (af 2), .ref (af 5), .int fm])), ((af 1), .inr (5, [.long (F 0 0), .long (F 0 1), .long (F 0 2), .long (F 0 3), .long (F 0 4), .long (F 0 5), .long (F 0 6), .long (F 0 7), .long (F 0 8), .long (F 0 9), .long (F 0 10), .long (F 0 11), .long (F 0 12)])), ((af 2), eJJ C 2 (rr af 3 2)), ((af 3), eJ C 4 (F 1)), ((af 4), eJ C 4 (F 2)), ((af 5), eJJ C 2 (rr af 6 2)), ((af 6), eJ C 3 (F 3)), ((af 7), eJ C 3 (F 4)), ((am 0), .inr (2, [.ref (am 1), .ref (am 2), .ref (am 3), .ref (am 4), .ref (am 5), .int (M 6 0), .int (M 6 1), .int (M 6 2)])), ((am 1), eI C 12 (M 0)), ((am 2), eI C 12 (M 1)), ((am 3), eI C 12 (M 2)), ((am 4), eI C 12 (M 3)), ((am 5), eII C 2 (rr am 6 2)), ((am 6), eI C 12 (M 4)), ((am 7), eI C 12 (M 5))] s.heap := hP
  have hl := lv_entry ([.ref (af 0), .ref (am 0), .int set, .int limit]) (n := 6) (Nat.le_of_ble_eq_true rfl)
  rw [lg_entry_eq]
  generalize (lg_sl ([.ref (af 0), .ref (am 0), .int set, .int limit]) ++ List.replicate (6 - (lg_sl ([.ref (af 0), .ref (am 0), .int set, .int limit])).length) Slot.unset).toArray = ls at hl ⊢
  have hl : lv_has ls 6 [(0, .ref (af 0)), (1, .ref (am 0)), (2, .int set), (3, .int limit)] := hl
  refine lv_iconst (v := 0) hx hb dX1_above_0 (by decide) ?_
  refine lv_istore (lv' := [(4, .int 0), (0, .ref (af 0)), (1, .ref (am 0)), (2, .int set), (3, .int limit)]) hx hb dX1_above_1 hl (by decide) rfl (fun ls hl => ?_)
  refine lv_iconst (v := 0) hx hb dX1_above_3 (by decide) ?_
  refine lv_istore (lv' := [(5, .int 0), (4, .int 0), (0, .ref (af 0)), (1, .ref (am 0)), (2, .int set), (3, .int limit)]) hx hb dX1_above_4 hl (by decide) rfl (fun ls hl => ?_)
  obtain ⟨n6, k, x, hinv⟩ : ∃ (n6 : Nat) (k : Nat) (x : Int32), (k + n6 = N) ∧ (abL F M fm set (limit.toInt64 * F 0 12) n6 k x = f1_above F M fm N set limit) ∧ lv_has ls 6 [(0, .ref (af 0)), (1, .ref (am 0)), (2, .int set), (3, .int limit), (4, .int x), (5, .int (nI k))] := ⟨N, 0, 0, by omega, rfl, lv_sub hl [2, 3, 4, 5, 1, 0] rfl⟩
  clear hl
  induction n6 generalizing k x ls with
  | zero =>
    obtain ⟨h6_0, h6_1, hl⟩ := hinv
    refine lv_iload hx hb dX1_above_6 (lv_at hl 5 rfl) ?_
    refine lv_aload_n hx hb dX1_above_8 rfl (lv_at hl 1 rfl) ?_
    refine va_getN (D := D) (host := "FieldAfterField") (ci := 2) (C := RX2) (T := TX2) (N := 8) hx hb hW inX2 hown hK hP 8 rfl rfl 5 (by decide) (va_Nw.use rfl (hNw _ tw40 rfl)) (fun _ h9 => h9) rfl dX1_above_9 ?_
    refine lv_icmp_ge (tgt := 60) hx hb dX1_above_12 (by decide) (fun c_1 => ?_) (fun c_1 => ?_)
    · refine lv_iload hx hb dX1_above_60 (lv_at hl 4 rfl) ?_
      exact W.iret (v := x) hx hb hr (fun t ht _ => ⟨_, rfl, h6_1, ht⟩) (fun q h => by cases h) dX1_above_62
    · exact absurd (q_le hN rfl (by omega) (by omega)) c_1
  | succ n6 ih6 =>
    obtain ⟨h6_0, h6_1, hl⟩ := hinv
    refine lv_iload hx hb dX1_above_6 (lv_at hl 5 rfl) ?_
    refine lv_aload_n hx hb dX1_above_8 rfl (lv_at hl 1 rfl) ?_
    refine va_getN (D := D) (host := "FieldAfterField") (ci := 2) (C := RX2) (T := TX2) (N := 8) hx hb hW inX2 hown hK hP 8 rfl rfl 5 (by decide) (va_Nw.use rfl (hNw _ tw40 rfl)) (fun _ h9 => h9) rfl dX1_above_9 ?_
    refine lv_icmp_ge (tgt := 60) hx hb dX1_above_12 (by decide) (fun c_2 => ?_) (fun c_2 => ?_)
    · exact absurd c_2 (q_nle hN rfl (by omega) (by omega))
    · refine lv_iload_n hx hb dX1_above_15 rfl (lv_at hl 2 rfl) ?_
      refine lv_iload hx hb dX1_above_16 (lv_at hl 5 rfl) ?_
      refine xri (r := f6_isIn set (nI k)) (rSN (As := [.int set, .int (nI k)]) (n := 2) (rest := []) ⟨hx, hb, hml, hown, hW⟩ (kX6_isIn l set (nI k)) (wa tw285 rfl) (hNw _ tw339 rfl) (wa tw284 rfl) (wa tw1 rfl) (by decide +kernel) ⟨Nat.le_of_ble_eq_true rfl, Nat.le_of_ble_eq_true rfl⟩ pS0 hl.1 rfl (Nat.le_of_ble_eq_true rfl) dX1_above_18 ⟨Nat.le_of_ble_eq_true rfl, Nat.le_of_ble_eq_true rfl⟩ rfl rfl rfl) ?_
      refine lv_if_eq (tgt := 54) hx hb dX1_above_21 (by decide) (fun c_3 => ?_) (fun c_3 => ?_)
      · refine lv_iinc (v := nI k + 1) (lv' := [(5, .int (nI k + 1)), (0, .ref (af 0)), (1, .ref (am 0)), (2, .int set), (3, .int limit), (4, .int x)]) hx hb dX1_above_54 hl (k := 5) rfl rfl (by decide) rfl (fun ls hl => ?_)
        refine lv_goto (tgt := 6) hx hb dX1_above_57 (by decide) ?_
        rw [nI_1] at hl
        exact ih6 (k := k + 1) (x := x) (ls := ls) ⟨by omega, by rw [← h6_1, abL]; simp only [if_pos c_3], lv_sub hl [1, 2, 3, 4, 5, 0] rfl⟩
      · refine lv_aload_n hx hb dX1_above_24 rfl (lv_at hl 0 rfl) ?_
        refine lv_aload_n hx hb dX1_above_25 rfl (lv_at hl 1 rfl) ?_
        refine lv_iload hx hb dX1_above_26 (lv_at hl 5 rfl) ?_
        refine xrl (r := f1_great F M fm k) (rV (As := [.ref (am 0), .int (nI k)]) (n := 2) (rest := []) ⟨hx, hb, hml, hown, hW⟩ (kX1_greaterRestOf l D C af F fm am M k (by omega)) (wa tw420 rfl) (wa tw417 rfl) (wa tw419 rfl) (was ts21 rfl) (wa tw3 rfl) (by decide +kernel) ⟨Nat.le_of_ble_eq_true rfl, Nat.le_of_ble_eq_true rfl⟩ (pVr hP hK hNw 0 rfl rfl) hl.1 rfl (Nat.le_of_ble_eq_true rfl) dX1_above_28 ⟨Nat.le_of_ble_eq_true rfl, Nat.le_of_ble_eq_true rfl⟩ rfl rfl rfl) ?_
        refine lv_iload_n hx hb dX1_above_31 rfl (lv_at hl 3 rfl) ?_
        refine lv_i2l (v := limit.toInt64) hx hb dX1_above_32 rfl ?_
        refine lv_aload_n hx hb dX1_above_33 rfl (lv_at hl 0 rfl) ?_
        refine va_get (D := D) (ci := 1) (C := RX1) (T := TX1) (N := 4) hx hb hW inX1 hown hK hP 0 rfl rfl 0 (by decide) (hW _ (wa tw128 rfl)) (fun _ h9 => h9) rfl dX1_above_34 ?_
        refine va_getN (D := D) (host := "FieldAfterField") (ci := 5) (C := RX5) (T := TX5) (N := 13) hx hb hW inX5 hown hK hP 1 rfl rfl 12 (by decide) (va_Nw.use rfl (hNw _ tw95 rfl)) (fun _ h9 => h9) rfl dX1_above_37 ?_
        refine lv_lmul hx hb dX1_above_40 ?_
        refine xlcmp_le (tgt := 54) hx hb dX1_above_41 dX1_above_42 (by decide) (fun c_4 => ?_) (fun c_4 => ?_)
        · refine lv_iinc (v := nI k + 1) (lv' := [(5, .int (nI k + 1)), (0, .ref (af 0)), (1, .ref (am 0)), (2, .int set), (3, .int limit), (4, .int x)]) hx hb dX1_above_54 hl (k := 5) rfl rfl (by decide) rfl (fun ls hl => ?_)
          refine lv_goto (tgt := 6) hx hb dX1_above_57 (by decide) ?_
          rw [nI_1] at hl
          exact ih6 (k := k + 1) (x := x) (ls := ls) ⟨by omega, by rw [← h6_1, abL]; simp only [if_neg c_3, if_pos c_4], lv_sub hl [1, 2, 3, 4, 5, 0] rfl⟩
        · refine lv_iload hx hb dX1_above_45 (lv_at hl 4 rfl) ?_
          refine lv_iconst (v := 1) hx hb dX1_above_47 (by decide) ?_
          refine lv_iload hx hb dX1_above_48 (lv_at hl 5 rfl) ?_
          refine lv_ishl hx hb dX1_above_50 ?_
          refine lv_ior hx hb dX1_above_51 ?_
          refine lv_istore (lv' := [(4, .int (x ||| ((1 : Int32) <<< ((nI k) &&& 31)))), (0, .ref (af 0)), (1, .ref (am 0)), (2, .int set), (3, .int limit), (5, .int (nI k))]) hx hb dX1_above_52 hl (by decide) rfl (fun ls hl => ?_)
          refine lv_iinc (v := nI k + 1) (lv' := [(5, .int (nI k + 1)), (4, .int (x ||| ((1 : Int32) <<< ((nI k) &&& 31)))), (0, .ref (af 0)), (1, .ref (am 0)), (2, .int set), (3, .int limit)]) hx hb dX1_above_54 hl (k := 5) rfl rfl (by decide) rfl (fun ls hl => ?_)
          refine lv_goto (tgt := 6) hx hb dX1_above_57 (by decide) ?_
          rw [nI_1] at hl
          exact ih6 (k := k + 1) (x := (x ||| ((1 : Int32) <<< ((nI k) &&& 31)))) (ls := ls) ⟨by omega, by rw [← h6_1, abL]; simp only [if_neg c_3, if_neg c_4], lv_sub hl [2, 3, 4, 5, 1, 0] rfl⟩

set_option maxHeartbeats 4000000 in
set_option maxRecDepth 100000 in
theorem kX1_worstOf (l : Launch) (D : va_G) (C : Nat → ClassId) (af : Nat → Nat) (F : Nat → Nat → Int64) (fm : Int32) (am : Nat → Nat) (M : Nat → Nat → Int32) (set : Int32) (N : Nat) (hN : M 6 0 = nI N) (hN12 : N ≤ 12) : Ri l D C yX1_worstOf cX1_worstOf 7 .int 3 [.ref (af 0), .ref (am 0), .int set] ((wF af C F fm) ++ (wM am C M)) (f1_worst F M fm N set) := by
  refine Met.ofW (cc := cX1_worstOf) (maxL := 7) (ret := (some .int)) (by decide) rfl ?_
  intro p e s m args below meth c s₁ B hml hv
  obtain ⟨rfl, hP, hK, hNw⟩ := hv
  have hx := B.exec
  have hb := B.bytes
  have hr := B.returns
  have hts := atoms_spec (ws := wm yX1_worstOf cX1_worstOf 7 (some .int)) B.pre
  have hown : s.vm.findClass RX1 = some m.cls := findClass_of_methodNamed B.named
  have hlocks := B.notSynchronized
  have hW : ∀ w ∈ WA, w.before _ s = true := fun w h => hts w (List.mem_cons_of_mem _ h)
  have hP : va_P D vwCl [((af 0), .inr (1, [.ref (af 1), .ref (af 2), .ref (af 5), .int fm])), ((af 1), .inr (5, [.long (F 0 0), .long (F 0 1), .long (F 0 2), .long (F 0 3), .long (F 0 4), .long (F 0 5), .long (F 0 6), .long (F 0 7), .long (F 0 8), .long (F 0 9), .long (F 0 10), .long (F 0 11), .long (F 0 12)])), ((af 2), eJJ C 2 (rr af 3 2)), ((af 3), eJ C 4 (F 1)), ((af 4), eJ C 4 (F 2)), ((af 5), eJJ C 2 (rr af 6 2)), ((af 6), eJ C 3 (F 3)), ((af 7), eJ C 3 (F 4)), ((am 0), .inr (2, [.ref (am 1), .ref (am 2), .ref (am 3), .ref (am 4), .ref (am 5), .int (M 6 0), .int (M 6 1), .int (M 6 2)])), ((am 1), eI C 12 (M 0)), ((am 2), eI C 12 (M 1)), ((am 3), eI C 12 (M 2)), ((am 4), eI C 12 (M 3)), ((am 5), eII C 2 (rr am 6 2)), ((am 6), eI C 12 (M 4)), ((am 7), eI C 12 (M 5))] s.heap := hP
  have hl := lv_entry ([.ref (af 0), .ref (am 0), .int set]) (n := 7) (Nat.le_of_ble_eq_true rfl)
  rw [lg_entry_eq]
  generalize (lg_sl ([.ref (af 0), .ref (am 0), .int set]) ++ List.replicate (7 - (lg_sl ([.ref (af 0), .ref (am 0), .int set])).length) Slot.unset).toArray = ls at hl ⊢
  have hl : lv_has ls 7 [(0, .ref (af 0)), (1, .ref (am 0)), (2, .int set)] := hl
  refine lv_iconst (v := (-1)) hx hb dX1_worstOf_0 (by decide) ?_
  refine lv_istore_n (lv' := [(3, .int (-1)), (0, .ref (af 0)), (1, .ref (am 0)), (2, .int set)]) hx hb dX1_worstOf_1 rfl hl (by decide) rfl (fun ls hl => ?_)
  refine lv_lconst (v := 0) hx hb dX1_worstOf_2 (by decide) ?_
  refine lv_lstore (lv' := [(4, .long 0), (3, .int (-1)), (0, .ref (af 0)), (1, .ref (am 0)), (2, .int set)]) hx hb dX1_worstOf_3 hl (by decide) rfl (fun ls hl => ?_)
  refine lv_iconst (v := 0) hx hb dX1_worstOf_5 (by decide) ?_
  refine lv_istore (lv' := [(6, .int 0), (4, .long 0), (3, .int (-1)), (0, .ref (af 0)), (1, .ref (am 0)), (2, .int set)]) hx hb dX1_worstOf_6 hl (by decide) rfl (fun ls hl => ?_)
  obtain ⟨n8, k, b, v, hinv⟩ : ∃ (n8 : Nat) (k : Nat) (b : Int32) (v : Int64), (k + n8 = N) ∧ (wsL F M fm set n8 k b v = f1_worst F M fm N set) ∧ lv_has ls 7 [(0, .ref (af 0)), (1, .ref (am 0)), (2, .int set), (3, .int b), (4, .long v), (6, .int (nI k))] := ⟨N, 0, (-1), 0, by omega, rfl, lv_sub hl [3, 4, 5, 2, 1, 0] rfl⟩
  clear hl
  induction n8 generalizing k b v ls with
  | zero =>
    obtain ⟨h8_0, h8_1, hl⟩ := hinv
    refine lv_iload hx hb dX1_worstOf_8 (lv_at hl 5 rfl) ?_
    refine lv_aload_n hx hb dX1_worstOf_10 rfl (lv_at hl 1 rfl) ?_
    refine va_getN (D := D) (host := "FieldAfterField") (ci := 2) (C := RX2) (T := TX2) (N := 8) hx hb hW inX2 hown hK hP 8 rfl rfl 5 (by decide) (va_Nw.use rfl (hNw _ tw40 rfl)) (fun _ h9 => h9) rfl dX1_worstOf_11 ?_
    refine lv_icmp_ge (tgt := 57) hx hb dX1_worstOf_14 (by decide) (fun c_1 => ?_) (fun c_1 => ?_)
    · refine lv_iload_n hx hb dX1_worstOf_57 rfl (lv_at hl 3 rfl) ?_
      exact W.iret (v := b) hx hb hr (fun t ht _ => ⟨_, rfl, h8_1, ht⟩) (fun q h => by cases h) dX1_worstOf_58
    · exact absurd (q_le hN rfl (by omega) (by omega)) c_1
  | succ n8 ih8 =>
    obtain ⟨h8_0, h8_1, hl⟩ := hinv
    refine lv_iload hx hb dX1_worstOf_8 (lv_at hl 5 rfl) ?_
    refine lv_aload_n hx hb dX1_worstOf_10 rfl (lv_at hl 1 rfl) ?_
    refine va_getN (D := D) (host := "FieldAfterField") (ci := 2) (C := RX2) (T := TX2) (N := 8) hx hb hW inX2 hown hK hP 8 rfl rfl 5 (by decide) (va_Nw.use rfl (hNw _ tw40 rfl)) (fun _ h9 => h9) rfl dX1_worstOf_11 ?_
    refine lv_icmp_ge (tgt := 57) hx hb dX1_worstOf_14 (by decide) (fun c_2 => ?_) (fun c_2 => ?_)
    · exact absurd c_2 (q_nle hN rfl (by omega) (by omega))
    · refine lv_iload_n hx hb dX1_worstOf_17 rfl (lv_at hl 2 rfl) ?_
      refine lv_iload hx hb dX1_worstOf_18 (lv_at hl 5 rfl) ?_
      refine xri (r := f6_isIn set (nI k)) (rSN (As := [.int set, .int (nI k)]) (n := 2) (rest := []) ⟨hx, hb, hml, hown, hW⟩ (kX6_isIn l set (nI k)) (wa tw285 rfl) (hNw _ tw339 rfl) (wa tw284 rfl) (wa tw1 rfl) (by decide +kernel) ⟨Nat.le_of_ble_eq_true rfl, Nat.le_of_ble_eq_true rfl⟩ pS0 hl.1 rfl (Nat.le_of_ble_eq_true rfl) dX1_worstOf_20 ⟨Nat.le_of_ble_eq_true rfl, Nat.le_of_ble_eq_true rfl⟩ rfl rfl rfl) ?_
      refine lv_if_eq (tgt := 51) hx hb dX1_worstOf_23 (by decide) (fun c_3 => ?_) (fun c_3 => ?_)
      · refine lv_iinc (v := nI k + 1) (lv' := [(6, .int (nI k + 1)), (0, .ref (af 0)), (1, .ref (am 0)), (2, .int set), (3, .int b), (4, .long v)]) hx hb dX1_worstOf_51 hl (k := 5) rfl rfl (by decide) rfl (fun ls hl => ?_)
        refine lv_goto (tgt := 8) hx hb dX1_worstOf_54 (by decide) ?_
        rw [nI_1] at hl
        exact ih8 (k := k + 1) (b := b) (v := v) (ls := ls) ⟨by omega, by rw [← h8_1, wsL]; simp only [if_pos c_3], lv_sub hl [1, 2, 3, 4, 5, 0] rfl⟩
      · refine lv_aload_n hx hb dX1_worstOf_26 rfl (lv_at hl 0 rfl) ?_
        refine lv_aload_n hx hb dX1_worstOf_27 rfl (lv_at hl 1 rfl) ?_
        refine lv_iload hx hb dX1_worstOf_28 (lv_at hl 5 rfl) ?_
        refine xrl (r := f1_great F M fm k) (rV (As := [.ref (am 0), .int (nI k)]) (n := 2) (rest := []) ⟨hx, hb, hml, hown, hW⟩ (kX1_greaterRestOf l D C af F fm am M k (by omega)) (wa tw420 rfl) (wa tw417 rfl) (wa tw419 rfl) (was ts21 rfl) (wa tw3 rfl) (by decide +kernel) ⟨Nat.le_of_ble_eq_true rfl, Nat.le_of_ble_eq_true rfl⟩ (pVr hP hK hNw 0 rfl rfl) hl.1 rfl (Nat.le_of_ble_eq_true rfl) dX1_worstOf_30 ⟨Nat.le_of_ble_eq_true rfl, Nat.le_of_ble_eq_true rfl⟩ rfl rfl rfl) ?_
        refine lv_lload hx hb dX1_worstOf_33 (lv_at hl 4 rfl) ?_
        refine xlcmp_le (tgt := 51) hx hb dX1_worstOf_35 dX1_worstOf_36 (by decide) (fun c_4 => ?_) (fun c_4 => ?_)
        · refine lv_iinc (v := nI k + 1) (lv' := [(6, .int (nI k + 1)), (0, .ref (af 0)), (1, .ref (am 0)), (2, .int set), (3, .int b), (4, .long v)]) hx hb dX1_worstOf_51 hl (k := 5) rfl rfl (by decide) rfl (fun ls hl => ?_)
          refine lv_goto (tgt := 8) hx hb dX1_worstOf_54 (by decide) ?_
          rw [nI_1] at hl
          exact ih8 (k := k + 1) (b := b) (v := v) (ls := ls) ⟨by omega, by rw [← h8_1, wsL]; simp only [if_neg c_3, if_pos c_4], lv_sub hl [1, 2, 3, 4, 5, 0] rfl⟩
        · refine lv_iload hx hb dX1_worstOf_39 (lv_at hl 5 rfl) ?_
          refine lv_istore_n (lv' := [(3, .int (nI k)), (0, .ref (af 0)), (1, .ref (am 0)), (2, .int set), (4, .long v), (6, .int (nI k))]) hx hb dX1_worstOf_41 rfl hl (by decide) rfl (fun ls hl => ?_)
          refine lv_aload_n hx hb dX1_worstOf_42 rfl (lv_at hl 1 rfl) ?_
          refine lv_aload_n hx hb dX1_worstOf_43 rfl (lv_at hl 2 rfl) ?_
          refine lv_iload hx hb dX1_worstOf_44 (lv_at hl 5 rfl) ?_
          refine xrl (r := f1_great F M fm k) (rV (As := [.ref (am 0), .int (nI k)]) (n := 2) (rest := []) ⟨hx, hb, hml, hown, hW⟩ (kX1_greaterRestOf l D C af F fm am M k (by omega)) (wa tw420 rfl) (wa tw417 rfl) (wa tw419 rfl) (was ts21 rfl) (wa tw3 rfl) (by decide +kernel) ⟨Nat.le_of_ble_eq_true rfl, Nat.le_of_ble_eq_true rfl⟩ (pVr hP hK hNw 0 rfl rfl) hl.1 rfl (Nat.le_of_ble_eq_true rfl) dX1_worstOf_46 ⟨Nat.le_of_ble_eq_true rfl, Nat.le_of_ble_eq_true rfl⟩ rfl rfl rfl) ?_
          refine lv_lstore (lv' := [(4, .long (f1_great F M fm k)), (3, .int (nI k)), (0, .ref (af 0)), (1, .ref (am 0)), (2, .int set), (6, .int (nI k))]) hx hb dX1_worstOf_49 hl (by decide) rfl (fun ls hl => ?_)
          refine lv_iinc (v := nI k + 1) (lv' := [(6, .int (nI k + 1)), (4, .long (f1_great F M fm k)), (3, .int (nI k)), (0, .ref (af 0)), (1, .ref (am 0)), (2, .int set)]) hx hb dX1_worstOf_51 hl (k := 5) rfl rfl (by decide) rfl (fun ls hl => ?_)
          refine lv_goto (tgt := 8) hx hb dX1_worstOf_54 (by decide) ?_
          rw [nI_1] at hl
          exact ih8 (k := k + 1) (b := (nI k)) (v := (f1_great F M fm k)) (ls := ls) ⟨by omega, by rw [← h8_1, wsL]; simp only [if_neg c_3, if_neg c_4], lv_sub hl [3, 4, 5, 2, 1, 0] rfl⟩

def liL (M : Nat → Nat → Int32) (N : Nat) (model limit : Int32) : Nat → Int32 → (Nat → Nat → Int64) → Int32 → Int32 × (Nat → Nat → Int64) × Int32
  | 0, kept, F, fm => (kept, F, fm)
  | r + 1, kept, F, _ => if (f1_worst (f1_make M N model kept F) M model N (f1_above (f1_make M N model kept F) M model N kept limit)) = -1 then (kept, (f1_make M N model kept F), model) else if f1_ok (f1_make M N model (kept &&& (((1 : Int32) <<< ((f1_worst (f1_make M N model kept F) M model N (f1_above (f1_make M N model kept F) M model N kept limit)) &&& 31)) ^^^ (-1))) (f1_make M N model kept F)) = 0 then (kept, (f1_make M N model (kept &&& (((1 : Int32) <<< ((f1_worst (f1_make M N model kept F) M model N (f1_above (f1_make M N model kept F) M model N kept limit)) &&& 31)) ^^^ (-1))) (f1_make M N model kept F)), model) else liL M N model limit r (kept &&& (((1 : Int32) <<< ((f1_worst (f1_make M N model kept F) M model N (f1_above (f1_make M N model kept F) M model N kept limit)) &&& 31)) ^^^ (-1))) (f1_make M N model (kept &&& (((1 : Int32) <<< ((f1_worst (f1_make M N model kept F) M model N (f1_above (f1_make M N model kept F) M model N kept limit)) &&& 31)) ^^^ (-1))) (f1_make M N model kept F)) model
def f1_liars (M : Nat → Nat → Int32) (N : Nat) (model limit : Int32) (F : Nat → Nat → Int64) (fm : Int32) : Int32 × (Nat → Nat → Int64) × Int32 := liL M N model limit 12 (f2_notLost M) F fm

set_option maxHeartbeats 4000000 in
set_option maxRecDepth 100000 in
theorem kX1_liars (l : Launch) (D : va_G) (C : Nat → ClassId) (af : Nat → Nat) (F : Nat → Nat → Int64) (fm : Int32) (am : Nat → Nat) (M : Nat → Nat → Int32) (model limit : Int32) (sz : Nat) (N : Nat) (hN : M 6 0 = nI N) (hN12 : N ≤ 12) : Wi l D C yX1_liars cX1_liars 7 .int 4 [.ref (af 0), .ref (am 0), .int model, .int limit] ((wF af C F fm) ++ (wM am C M)) (((wF af C ((f1_liars M N model limit F fm).2.1) ((f1_liars M N model limit F fm).2.2)) ++ (wM am C M))) (f2_notLost M &&& ((f1_liars M N model limit F fm).1 ^^^ (-1))) sz := by
  refine Met.ofW (cc := cX1_liars) (maxL := 7) (ret := (some .int)) (by decide) rfl ?_
  intro p e s m args below meth c s₁ B hml hv
  obtain ⟨rfl, hsz, hP, hK, hNw, hD0⟩ := hv
  have hx := B.exec
  have hb := B.bytes
  have hr := B.returns
  have hts := atoms_spec (ws := wm yX1_liars cX1_liars 7 (some .int)) B.pre
  have hown : s.vm.findClass RX1 = some m.cls := findClass_of_methodNamed B.named
  have hlocks := B.notSynchronized
  have hW : ∀ w ∈ WA, w.before _ s = true := fun w h => hts w (List.mem_cons_of_mem _ h)
  subst hsz
  have hD := hD0.self (sz := s.heap.size)
  generalize hAe : va_A ((wF af C F fm) ++ (wM am C M)) s.heap.size = A at hD ⊢
  have hA : ∀ q : Nat, s.heap.size ≤ q → A q := fun q h => by rw [← hAe]; exact Or.inr h
  have hS : va_S A s.heap s.heap [] := va_S.rf
  have hP : va_P D vwCl [((af 0), .inr (1, [.ref (af 1), .ref (af 2), .ref (af 5), .int fm])), ((af 1), .inr (5, [.long (F 0 0), .long (F 0 1), .long (F 0 2), .long (F 0 3), .long (F 0 4), .long (F 0 5), .long (F 0 6), .long (F 0 7), .long (F 0 8), .long (F 0 9), .long (F 0 10), .long (F 0 11), .long (F 0 12)])), ((af 2), eJJ C 2 (rr af 3 2)), ((af 3), eJ C 4 (F 1)), ((af 4), eJ C 4 (F 2)), ((af 5), eJJ C 2 (rr af 6 2)), ((af 6), eJ C 3 (F 3)), ((af 7), eJ C 3 (F 4)), ((am 0), .inr (2, [.ref (am 1), .ref (am 2), .ref (am 3), .ref (am 4), .ref (am 5), .int (M 6 0), .int (M 6 1), .int (M 6 2)])), ((am 1), eI C 12 (M 0)), ((am 2), eI C 12 (M 1)), ((am 3), eI C 12 (M 2)), ((am 4), eI C 12 (M 3)), ((am 5), eII C 2 (rr am 6 2)), ((am 6), eI C 12 (M 4)), ((am 7), eI C 12 (M 5))] s.heap := hP
  have hD : va_D A [((af 0), .inr (1, [.ref (af 1), .ref (af 2), .ref (af 5), .int fm])), ((af 1), .inr (5, [.long (F 0 0), .long (F 0 1), .long (F 0 2), .long (F 0 3), .long (F 0 4), .long (F 0 5), .long (F 0 6), .long (F 0 7), .long (F 0 8), .long (F 0 9), .long (F 0 10), .long (F 0 11), .long (F 0 12)])), ((af 2), eJJ C 2 (rr af 3 2)), ((af 3), eJ C 4 (F 1)), ((af 4), eJ C 4 (F 2)), ((af 5), eJJ C 2 (rr af 6 2)), ((af 6), eJ C 3 (F 3)), ((af 7), eJ C 3 (F 4)), ((am 0), .inr (2, [.ref (am 1), .ref (am 2), .ref (am 3), .ref (am 4), .ref (am 5), .int (M 6 0), .int (M 6 1), .int (M 6 2)])), ((am 1), eI C 12 (M 0)), ((am 2), eI C 12 (M 1)), ((am 3), eI C 12 (M 2)), ((am 4), eI C 12 (M 3)), ((am 5), eII C 2 (rr am 6 2)), ((am 6), eI C 12 (M 4)), ((am 7), eI C 12 (M 5))] := hD
  have hl := lv_entry ([.ref (af 0), .ref (am 0), .int model, .int limit]) (n := 7) (Nat.le_of_ble_eq_true rfl)
  rw [lg_entry_eq]
  generalize (lg_sl ([.ref (af 0), .ref (am 0), .int model, .int limit]) ++ List.replicate (7 - (lg_sl ([.ref (af 0), .ref (am 0), .int model, .int limit])).length) Slot.unset).toArray = ls at hl ⊢
  have hl : lv_has ls 7 [(0, .ref (af 0)), (1, .ref (am 0)), (2, .int model), (3, .int limit)] := hl
  refine lv_aload_n hx hb dX1_liars_0 rfl (lv_at hl 1 rfl) ?_
  refine xri (r := f2_notLost M) (rVN (As := []) (n := 0) (rest := []) ⟨hx, hb, hml, hown, hW⟩ (kX2_notLost l D C am M  ) (wa tw312 rfl) (hNw _ tw411 rfl) (wa tw311 rfl) (was ts5 rfl) (wa tw2 rfl) (by decide +kernel) ⟨Nat.le_of_ble_eq_true rfl, Nat.le_of_ble_eq_true rfl⟩ (pVr (hP.sub [8, 9, 10, 11, 12, 13, 14, 15] rfl) hK hNw 0 rfl rfl) hl.1 rfl (Nat.le_of_ble_eq_true rfl) dX1_liars_1 ⟨Nat.le_of_ble_eq_true rfl, Nat.le_of_ble_eq_true rfl⟩ rfl rfl rfl) ?_
  refine lv_istore (lv' := [(4, .int (f2_notLost M)), (0, .ref (af 0)), (1, .ref (am 0)), (2, .int model), (3, .int limit)]) hx hb dX1_liars_4 hl (by decide) rfl (fun ls hl => ?_)
  refine lv_iconst (v := 0) hx hb dX1_liars_6 (by decide) ?_
  refine lv_istore (lv' := [(5, .int 0), (4, .int (f2_notLost M)), (0, .ref (af 0)), (1, .ref (am 0)), (2, .int model), (3, .int limit)]) hx hb dX1_liars_7 hl (by decide) rfl (fun ls hl => ?_)
  refine xgen hP hS (fun H locs hP hS => ?_)
  obtain ⟨n9, k, kept, Fv, fv, hinv⟩ : ∃ (n9 : Nat) (k : Nat) (kept : Int32) (Fv : Nat → Nat → Int64) (fv : Int32), (k + n9 = 12) ∧ (liL M N model limit n9 kept Fv fv = (f1_liars M N model limit F fm)) ∧ lv_has ls 7 [(0, .ref (af 0)), (1, .ref (am 0)), (2, .int model), (3, .int limit), (4, .int kept), (5, .int (nI k))] ∧ va_P D vwCl [((af 0), .inr (1, [.ref (af 1), .ref (af 2), .ref (af 5), .int fv])), ((af 1), .inr (5, [.long (Fv 0 0), .long (Fv 0 1), .long (Fv 0 2), .long (Fv 0 3), .long (Fv 0 4), .long (Fv 0 5), .long (Fv 0 6), .long (Fv 0 7), .long (Fv 0 8), .long (Fv 0 9), .long (Fv 0 10), .long (Fv 0 11), .long (Fv 0 12)])), ((af 2), eJJ C 2 (rr af 3 2)), ((af 3), eJ C 4 (Fv 1)), ((af 4), eJ C 4 (Fv 2)), ((af 5), eJJ C 2 (rr af 6 2)), ((af 6), eJ C 3 (Fv 3)), ((af 7), eJ C 3 (Fv 4)), ((am 0), .inr (2, [.ref (am 1), .ref (am 2), .ref (am 3), .ref (am 4), .ref (am 5), .int (M 6 0), .int (M 6 1), .int (M 6 2)])), ((am 1), eI C 12 (M 0)), ((am 2), eI C 12 (M 1)), ((am 3), eI C 12 (M 2)), ((am 4), eI C 12 (M 3)), ((am 5), eII C 2 (rr am 6 2)), ((am 6), eI C 12 (M 4)), ((am 7), eI C 12 (M 5))] H ∧ va_D A [((af 0), .inr (1, [.ref (af 1), .ref (af 2), .ref (af 5), .int fv])), ((af 1), .inr (5, [.long (Fv 0 0), .long (Fv 0 1), .long (Fv 0 2), .long (Fv 0 3), .long (Fv 0 4), .long (Fv 0 5), .long (Fv 0 6), .long (Fv 0 7), .long (Fv 0 8), .long (Fv 0 9), .long (Fv 0 10), .long (Fv 0 11), .long (Fv 0 12)])), ((af 2), eJJ C 2 (rr af 3 2)), ((af 3), eJ C 4 (Fv 1)), ((af 4), eJ C 4 (Fv 2)), ((af 5), eJJ C 2 (rr af 6 2)), ((af 6), eJ C 3 (Fv 3)), ((af 7), eJ C 3 (Fv 4)), ((am 0), .inr (2, [.ref (am 1), .ref (am 2), .ref (am 3), .ref (am 4), .ref (am 5), .int (M 6 0), .int (M 6 1), .int (M 6 2)])), ((am 1), eI C 12 (M 0)), ((am 2), eI C 12 (M 1)), ((am 3), eI C 12 (M 2)), ((am 4), eI C 12 (M 3)), ((am 5), eII C 2 (rr am 6 2)), ((am 6), eI C 12 (M 4)), ((am 7), eI C 12 (M 5))] ∧ va_S A s.heap H locs := ⟨12, 0, (f2_notLost M), F, fm, rfl, rfl, lv_sub hl [2, 3, 4, 5, 1, 0] rfl, hP, hD, hS⟩
  clear hl hP hD hS
  induction n9 generalizing k kept Fv fv ls H locs with
  | zero =>
    obtain ⟨h9_0, h9_1, hl, hP, hD, hS⟩ := hinv
    refine lv_iload hx hb dX1_liars_9 (lv_at hl 5 rfl) ?_
    refine lv_bipush (v := 12) hx hb dX1_liars_11 (by decide) ?_
    refine lv_icmp_ge (tgt := 84) hx hb dX1_liars_13 (by decide) (fun c_1 => ?_) (fun c_1 => ?_)
    · have e_all : (kept, Fv, fv) = (f1_liars M N model limit F fm) := h9_1
      refine lv_aload_n hx hb dX1_liars_84 rfl (lv_at hl 1 rfl) ?_
      refine xri (r := f2_notLost M) (rVN (As := []) (n := 0) (rest := []) ⟨hx, hb, hml, hown, hW⟩ (kX2_notLost l D C am M  ) (wa tw312 rfl) (hNw _ tw411 rfl) (wa tw311 rfl) (was ts5 rfl) (wa tw2 rfl) (by decide +kernel) ⟨Nat.le_of_ble_eq_true rfl, Nat.le_of_ble_eq_true rfl⟩ (pVr (hP.sub [8, 9, 10, 11, 12, 13, 14, 15] rfl) hK hNw 0 rfl rfl) hl.1 rfl (Nat.le_of_ble_eq_true rfl) dX1_liars_85 ⟨Nat.le_of_ble_eq_true rfl, Nat.le_of_ble_eq_true rfl⟩ rfl rfl rfl) ?_
      refine lv_iload hx hb dX1_liars_88 (lv_at hl 4 rfl) ?_
      refine lv_iconst (v := (-1)) hx hb dX1_liars_90 (by decide) ?_
      refine lv_ixor hx hb dX1_liars_91 ?_
      refine lv_iand hx hb dX1_liars_92 ?_
      have hb_0 : (f1_liars M N model limit F fm).2.1 = Fv := by rw [← e_all]
      have hb_1 : (f1_liars M N model limit F fm).2.2 = fv := by rw [← e_all]
      have hP9 : va_P D vwCl (((wF af C ((f1_liars M N model limit F fm).2.1) ((f1_liars M N model limit F fm).2.2)) ++ (wM am C M))) H := by rw [hb_0, hb_1]; exact hP
      have hD9 : va_D A (((wF af C ((f1_liars M N model limit F fm).2.1) ((f1_liars M N model limit F fm).2.2)) ++ (wM am C M))) := by rw [hb_0, hb_1]; exact hD
      exact W.iret (v := (f2_notLost M) &&& (kept ^^^ (-1))) hx hb hr (fun t ht _ => ⟨⟨_, (), rfl, (by rw [← e_all]; try rfl), ⟨by rw [ht]; exact hP9, by rw [hAe]; exact hD9⟩⟩, hS.F ht⟩) hS.2.2 dX1_liars_93
    · exact absurd (q_le (nI_lit 12) rfl (by omega) (by omega)) c_1
  | succ n9 ih9 =>
    obtain ⟨h9_0, h9_1, hl, hP, hD, hS⟩ := hinv
    refine lv_iload hx hb dX1_liars_9 (lv_at hl 5 rfl) ?_
    refine lv_bipush (v := 12) hx hb dX1_liars_11 (by decide) ?_
    refine lv_icmp_ge (tgt := 84) hx hb dX1_liars_13 (by decide) (fun c_2 => ?_) (fun c_2 => ?_)
    · exact absurd c_2 (q_nle (nI_lit 12) rfl (by omega) (by omega))
    · refine lv_aload_n hx hb dX1_liars_16 rfl (lv_at hl 0 rfl) ?_
      refine lv_aload_n hx hb dX1_liars_17 rfl (lv_at hl 1 rfl) ?_
      refine lv_iload_n hx hb dX1_liars_18 rfl (lv_at hl 2 rfl) ?_
      refine lv_iload hx hb dX1_liars_19 (lv_at hl 4 rfl) ?_
      refine xwi (wr := []) (rV (As := [.ref (am 0), .int model, .int kept]) (n := 3) (rest := []) ⟨hx, hb, hml, hown, hW⟩ (kX1_make l D C af Fv fv am M model kept H.size N hN hN12) (wa tw334 rfl) (wa tw412 rfl) (wa tw333 rfl) (was ts9 rfl) (wa tw3 rfl) (by decide +kernel) ⟨Nat.le_of_ble_eq_true rfl, Nat.le_of_ble_eq_true rfl⟩ (pVw hP hD hK hNw 0 rfl rfl) hl.1 rfl (Nat.le_of_ble_eq_true rfl) dX1_liars_21 ⟨Nat.le_of_ble_eq_true rfl, Nat.le_of_ble_eq_true rfl⟩ rfl rfl rfl) hP hD hS hA [0, 1, 2, 3, 4, 5, 6, 7, 8, 9, 10, 11, 12, 13, 14, 15] [] rfl rfl (by decide) (by decide) (fun H locs hP hD hS => ?_)
      have hP : va_P D vwCl [((af 0), .inr (1, [.ref (af 1), .ref (af 2), .ref (af 5), .int model])), ((af 1), .inr (5, [.long ((f1_make M N model kept Fv) 0 0), .long ((f1_make M N model kept Fv) 0 1), .long ((f1_make M N model kept Fv) 0 2), .long ((f1_make M N model kept Fv) 0 3), .long ((f1_make M N model kept Fv) 0 4), .long ((f1_make M N model kept Fv) 0 5), .long ((f1_make M N model kept Fv) 0 6), .long ((f1_make M N model kept Fv) 0 7), .long ((f1_make M N model kept Fv) 0 8), .long ((f1_make M N model kept Fv) 0 9), .long ((f1_make M N model kept Fv) 0 10), .long ((f1_make M N model kept Fv) 0 11), .long ((f1_make M N model kept Fv) 0 12)])), ((af 2), eJJ C 2 (rr af 3 2)), ((af 3), eJ C 4 ((f1_make M N model kept Fv) 1)), ((af 4), eJ C 4 ((f1_make M N model kept Fv) 2)), ((af 5), eJJ C 2 (rr af 6 2)), ((af 6), eJ C 3 ((f1_make M N model kept Fv) 3)), ((af 7), eJ C 3 ((f1_make M N model kept Fv) 4)), ((am 0), .inr (2, [.ref (am 1), .ref (am 2), .ref (am 3), .ref (am 4), .ref (am 5), .int (M 6 0), .int (M 6 1), .int (M 6 2)])), ((am 1), eI C 12 (M 0)), ((am 2), eI C 12 (M 1)), ((am 3), eI C 12 (M 2)), ((am 4), eI C 12 (M 3)), ((am 5), eII C 2 (rr am 6 2)), ((am 6), eI C 12 (M 4)), ((am 7), eI C 12 (M 5))] H := hP
      have hD : va_D A [((af 0), .inr (1, [.ref (af 1), .ref (af 2), .ref (af 5), .int model])), ((af 1), .inr (5, [.long ((f1_make M N model kept Fv) 0 0), .long ((f1_make M N model kept Fv) 0 1), .long ((f1_make M N model kept Fv) 0 2), .long ((f1_make M N model kept Fv) 0 3), .long ((f1_make M N model kept Fv) 0 4), .long ((f1_make M N model kept Fv) 0 5), .long ((f1_make M N model kept Fv) 0 6), .long ((f1_make M N model kept Fv) 0 7), .long ((f1_make M N model kept Fv) 0 8), .long ((f1_make M N model kept Fv) 0 9), .long ((f1_make M N model kept Fv) 0 10), .long ((f1_make M N model kept Fv) 0 11), .long ((f1_make M N model kept Fv) 0 12)])), ((af 2), eJJ C 2 (rr af 3 2)), ((af 3), eJ C 4 ((f1_make M N model kept Fv) 1)), ((af 4), eJ C 4 ((f1_make M N model kept Fv) 2)), ((af 5), eJJ C 2 (rr af 6 2)), ((af 6), eJ C 3 ((f1_make M N model kept Fv) 3)), ((af 7), eJ C 3 ((f1_make M N model kept Fv) 4)), ((am 0), .inr (2, [.ref (am 1), .ref (am 2), .ref (am 3), .ref (am 4), .ref (am 5), .int (M 6 0), .int (M 6 1), .int (M 6 2)])), ((am 1), eI C 12 (M 0)), ((am 2), eI C 12 (M 1)), ((am 3), eI C 12 (M 2)), ((am 4), eI C 12 (M 3)), ((am 5), eII C 2 (rr am 6 2)), ((am 6), eI C 12 (M 4)), ((am 7), eI C 12 (M 5))] := hD
      refine lv_pop hx hb dX1_liars_24 rfl ?_
      refine lv_aload_n hx hb dX1_liars_25 rfl (lv_at hl 0 rfl) ?_
      refine lv_aload_n hx hb dX1_liars_26 rfl (lv_at hl 1 rfl) ?_
      refine lv_aload_n hx hb dX1_liars_27 rfl (lv_at hl 0 rfl) ?_
      refine lv_aload_n hx hb dX1_liars_28 rfl (lv_at hl 1 rfl) ?_
      refine lv_iload hx hb dX1_liars_29 (lv_at hl 4 rfl) ?_
      refine lv_iload_n hx hb dX1_liars_31 rfl (lv_at hl 3 rfl) ?_
      refine xri (r := f1_above (f1_make M N model kept Fv) M model N kept limit) (rV (As := [.ref (am 0), .int kept, .int limit]) (n := 3) (rest := [.ref (am 0), .ref (af 0)]) ⟨hx, hb, hml, hown, hW⟩ (kX1_above l D C af (f1_make M N model kept Fv) model am M kept limit N hN hN12) (wa tw416 rfl) (wa tw413 rfl) (wa tw415 rfl) (was ts20 rfl) (wa tw3 rfl) (by decide +kernel) ⟨Nat.le_of_ble_eq_true rfl, Nat.le_of_ble_eq_true rfl⟩ (pVr hP hK hNw 0 rfl rfl) hl.1 rfl (Nat.le_of_ble_eq_true rfl) dX1_liars_32 ⟨Nat.le_of_ble_eq_true rfl, Nat.le_of_ble_eq_true rfl⟩ rfl rfl rfl) ?_
      refine xri (r := f1_worst (f1_make M N model kept Fv) M model N (f1_above (f1_make M N model kept Fv) M model N kept limit)) (rV (As := [.ref (am 0), .int (f1_above (f1_make M N model kept Fv) M model N kept limit)]) (n := 2) (rest := []) ⟨hx, hb, hml, hown, hW⟩ (kX1_worstOf l D C af (f1_make M N model kept Fv) model am M (f1_above (f1_make M N model kept Fv) M model N kept limit) N hN hN12) (wa tw429 rfl) (wa tw426 rfl) (wa tw428 rfl) (was ts22 rfl) (wa tw3 rfl) (by decide +kernel) ⟨Nat.le_of_ble_eq_true rfl, Nat.le_of_ble_eq_true rfl⟩ (pVr hP hK hNw 0 rfl rfl) hl.1 rfl (Nat.le_of_ble_eq_true rfl) dX1_liars_35 ⟨Nat.le_of_ble_eq_true rfl, Nat.le_of_ble_eq_true rfl⟩ rfl rfl rfl) ?_
      refine lv_istore (lv' := [(6, .int (f1_worst (f1_make M N model kept Fv) M model N (f1_above (f1_make M N model kept Fv) M model N kept limit))), (0, .ref (af 0)), (1, .ref (am 0)), (2, .int model), (3, .int limit), (4, .int kept), (5, .int (nI k))]) hx hb dX1_liars_38 hl (by decide) rfl (fun ls hl => ?_)
      refine lv_iload hx hb dX1_liars_40 (lv_at hl 0 rfl) ?_
      refine lv_iconst (v := (-1)) hx hb dX1_liars_42 (by decide) ?_
      refine lv_icmp_eq (tgt := 84) hx hb dX1_liars_43 (by decide) (fun c_3 => ?_) (fun c_3 => ?_)
      · have e_all : (kept, f1_make M N model kept Fv, model) = (f1_liars M N model limit F fm) := by rw [← h9_1, liL]; rw [if_pos c_3]
        refine lv_aload_n hx hb dX1_liars_84 rfl (lv_at hl 2 rfl) ?_
        refine xri (r := f2_notLost M) (rVN (As := []) (n := 0) (rest := []) ⟨hx, hb, hml, hown, hW⟩ (kX2_notLost l D C am M  ) (wa tw312 rfl) (hNw _ tw411 rfl) (wa tw311 rfl) (was ts5 rfl) (wa tw2 rfl) (by decide +kernel) ⟨Nat.le_of_ble_eq_true rfl, Nat.le_of_ble_eq_true rfl⟩ (pVr (hP.sub [8, 9, 10, 11, 12, 13, 14, 15] rfl) hK hNw 0 rfl rfl) hl.1 rfl (Nat.le_of_ble_eq_true rfl) dX1_liars_85 ⟨Nat.le_of_ble_eq_true rfl, Nat.le_of_ble_eq_true rfl⟩ rfl rfl rfl) ?_
        refine lv_iload hx hb dX1_liars_88 (lv_at hl 5 rfl) ?_
        refine lv_iconst (v := (-1)) hx hb dX1_liars_90 (by decide) ?_
        refine lv_ixor hx hb dX1_liars_91 ?_
        refine lv_iand hx hb dX1_liars_92 ?_
        have hb_0 : (f1_liars M N model limit F fm).2.1 = f1_make M N model kept Fv := by rw [← e_all]
        have hb_1 : (f1_liars M N model limit F fm).2.2 = model := by rw [← e_all]
        have hP9 : va_P D vwCl (((wF af C ((f1_liars M N model limit F fm).2.1) ((f1_liars M N model limit F fm).2.2)) ++ (wM am C M))) H := by rw [hb_0, hb_1]; exact hP
        have hD9 : va_D A (((wF af C ((f1_liars M N model limit F fm).2.1) ((f1_liars M N model limit F fm).2.2)) ++ (wM am C M))) := by rw [hb_0, hb_1]; exact hD
        exact W.iret (v := (f2_notLost M) &&& (kept ^^^ (-1))) hx hb hr (fun t ht _ => ⟨⟨_, (), rfl, (by rw [← e_all]; try rfl), ⟨by rw [ht]; exact hP9, by rw [hAe]; exact hD9⟩⟩, hS.F ht⟩) hS.2.2 dX1_liars_93
      · refine lv_aload_n hx hb dX1_liars_46 rfl (lv_at hl 1 rfl) ?_
        refine lv_aload_n hx hb dX1_liars_47 rfl (lv_at hl 2 rfl) ?_
        refine lv_iload_n hx hb dX1_liars_48 rfl (lv_at hl 3 rfl) ?_
        refine lv_iload hx hb dX1_liars_49 (lv_at hl 5 rfl) ?_
        refine lv_iconst (v := 1) hx hb dX1_liars_51 (by decide) ?_
        refine lv_iload hx hb dX1_liars_52 (lv_at hl 0 rfl) ?_
        refine lv_ishl hx hb dX1_liars_54 ?_
        refine lv_iconst (v := (-1)) hx hb dX1_liars_55 (by decide) ?_
        refine lv_ixor hx hb dX1_liars_56 ?_
        refine lv_iand hx hb dX1_liars_57 ?_
        refine xwi (wr := []) (rV (As := [.ref (am 0), .int model, .int (kept &&& (((1 : Int32) <<< ((f1_worst (f1_make M N model kept Fv) M model N (f1_above (f1_make M N model kept Fv) M model N kept limit)) &&& 31)) ^^^ (-1)))]) (n := 3) (rest := []) ⟨hx, hb, hml, hown, hW⟩ (kX1_make l D C af (f1_make M N model kept Fv) model am M model (kept &&& (((1 : Int32) <<< ((f1_worst (f1_make M N model kept Fv) M model N (f1_above (f1_make M N model kept Fv) M model N kept limit)) &&& 31)) ^^^ (-1))) H.size N hN hN12) (wa tw334 rfl) (wa tw412 rfl) (wa tw333 rfl) (was ts9 rfl) (wa tw3 rfl) (by decide +kernel) ⟨Nat.le_of_ble_eq_true rfl, Nat.le_of_ble_eq_true rfl⟩ (pVw hP hD hK hNw 0 rfl rfl) hl.1 rfl (Nat.le_of_ble_eq_true rfl) dX1_liars_58 ⟨Nat.le_of_ble_eq_true rfl, Nat.le_of_ble_eq_true rfl⟩ rfl rfl rfl) hP hD hS hA [0, 1, 2, 3, 4, 5, 6, 7, 8, 9, 10, 11, 12, 13, 14, 15] [] rfl rfl (by decide) (by decide) (fun H locs hP hD hS => ?_)
        have hP : va_P D vwCl [((af 0), .inr (1, [.ref (af 1), .ref (af 2), .ref (af 5), .int model])), ((af 1), .inr (5, [.long ((f1_make M N model (kept &&& (((1 : Int32) <<< ((f1_worst (f1_make M N model kept Fv) M model N (f1_above (f1_make M N model kept Fv) M model N kept limit)) &&& 31)) ^^^ (-1))) (f1_make M N model kept Fv)) 0 0), .long ((f1_make M N model (kept &&& (((1 : Int32) <<< ((f1_worst (f1_make M N model kept Fv) M model N (f1_above (f1_make M N model kept Fv) M model N kept limit)) &&& 31)) ^^^ (-1))) (f1_make M N model kept Fv)) 0 1), .long ((f1_make M N model (kept &&& (((1 : Int32) <<< ((f1_worst (f1_make M N model kept Fv) M model N (f1_above (f1_make M N model kept Fv) M model N kept limit)) &&& 31)) ^^^ (-1))) (f1_make M N model kept Fv)) 0 2), .long ((f1_make M N model (kept &&& (((1 : Int32) <<< ((f1_worst (f1_make M N model kept Fv) M model N (f1_above (f1_make M N model kept Fv) M model N kept limit)) &&& 31)) ^^^ (-1))) (f1_make M N model kept Fv)) 0 3), .long ((f1_make M N model (kept &&& (((1 : Int32) <<< ((f1_worst (f1_make M N model kept Fv) M model N (f1_above (f1_make M N model kept Fv) M model N kept limit)) &&& 31)) ^^^ (-1))) (f1_make M N model kept Fv)) 0 4), .long ((f1_make M N model (kept &&& (((1 : Int32) <<< ((f1_worst (f1_make M N model kept Fv) M model N (f1_above (f1_make M N model kept Fv) M model N kept limit)) &&& 31)) ^^^ (-1))) (f1_make M N model kept Fv)) 0 5), .long ((f1_make M N model (kept &&& (((1 : Int32) <<< ((f1_worst (f1_make M N model kept Fv) M model N (f1_above (f1_make M N model kept Fv) M model N kept limit)) &&& 31)) ^^^ (-1))) (f1_make M N model kept Fv)) 0 6), .long ((f1_make M N model (kept &&& (((1 : Int32) <<< ((f1_worst (f1_make M N model kept Fv) M model N (f1_above (f1_make M N model kept Fv) M model N kept limit)) &&& 31)) ^^^ (-1))) (f1_make M N model kept Fv)) 0 7), .long ((f1_make M N model (kept &&& (((1 : Int32) <<< ((f1_worst (f1_make M N model kept Fv) M model N (f1_above (f1_make M N model kept Fv) M model N kept limit)) &&& 31)) ^^^ (-1))) (f1_make M N model kept Fv)) 0 8), .long ((f1_make M N model (kept &&& (((1 : Int32) <<< ((f1_worst (f1_make M N model kept Fv) M model N (f1_above (f1_make M N model kept Fv) M model N kept limit)) &&& 31)) ^^^ (-1))) (f1_make M N model kept Fv)) 0 9), .long ((f1_make M N model (kept &&& (((1 : Int32) <<< ((f1_worst (f1_make M N model kept Fv) M model N (f1_above (f1_make M N model kept Fv) M model N kept limit)) &&& 31)) ^^^ (-1))) (f1_make M N model kept Fv)) 0 10), .long ((f1_make M N model (kept &&& (((1 : Int32) <<< ((f1_worst (f1_make M N model kept Fv) M model N (f1_above (f1_make M N model kept Fv) M model N kept limit)) &&& 31)) ^^^ (-1))) (f1_make M N model kept Fv)) 0 11), .long ((f1_make M N model (kept &&& (((1 : Int32) <<< ((f1_worst (f1_make M N model kept Fv) M model N (f1_above (f1_make M N model kept Fv) M model N kept limit)) &&& 31)) ^^^ (-1))) (f1_make M N model kept Fv)) 0 12)])), ((af 2), eJJ C 2 (rr af 3 2)), ((af 3), eJ C 4 ((f1_make M N model (kept &&& (((1 : Int32) <<< ((f1_worst (f1_make M N model kept Fv) M model N (f1_above (f1_make M N model kept Fv) M model N kept limit)) &&& 31)) ^^^ (-1))) (f1_make M N model kept Fv)) 1)), ((af 4), eJ C 4 ((f1_make M N model (kept &&& (((1 : Int32) <<< ((f1_worst (f1_make M N model kept Fv) M model N (f1_above (f1_make M N model kept Fv) M model N kept limit)) &&& 31)) ^^^ (-1))) (f1_make M N model kept Fv)) 2)), ((af 5), eJJ C 2 (rr af 6 2)), ((af 6), eJ C 3 ((f1_make M N model (kept &&& (((1 : Int32) <<< ((f1_worst (f1_make M N model kept Fv) M model N (f1_above (f1_make M N model kept Fv) M model N kept limit)) &&& 31)) ^^^ (-1))) (f1_make M N model kept Fv)) 3)), ((af 7), eJ C 3 ((f1_make M N model (kept &&& (((1 : Int32) <<< ((f1_worst (f1_make M N model kept Fv) M model N (f1_above (f1_make M N model kept Fv) M model N kept limit)) &&& 31)) ^^^ (-1))) (f1_make M N model kept Fv)) 4)), ((am 0), .inr (2, [.ref (am 1), .ref (am 2), .ref (am 3), .ref (am 4), .ref (am 5), .int (M 6 0), .int (M 6 1), .int (M 6 2)])), ((am 1), eI C 12 (M 0)), ((am 2), eI C 12 (M 1)), ((am 3), eI C 12 (M 2)), ((am 4), eI C 12 (M 3)), ((am 5), eII C 2 (rr am 6 2)), ((am 6), eI C 12 (M 4)), ((am 7), eI C 12 (M 5))] H := hP
        have hD : va_D A [((af 0), .inr (1, [.ref (af 1), .ref (af 2), .ref (af 5), .int model])), ((af 1), .inr (5, [.long ((f1_make M N model (kept &&& (((1 : Int32) <<< ((f1_worst (f1_make M N model kept Fv) M model N (f1_above (f1_make M N model kept Fv) M model N kept limit)) &&& 31)) ^^^ (-1))) (f1_make M N model kept Fv)) 0 0), .long ((f1_make M N model (kept &&& (((1 : Int32) <<< ((f1_worst (f1_make M N model kept Fv) M model N (f1_above (f1_make M N model kept Fv) M model N kept limit)) &&& 31)) ^^^ (-1))) (f1_make M N model kept Fv)) 0 1), .long ((f1_make M N model (kept &&& (((1 : Int32) <<< ((f1_worst (f1_make M N model kept Fv) M model N (f1_above (f1_make M N model kept Fv) M model N kept limit)) &&& 31)) ^^^ (-1))) (f1_make M N model kept Fv)) 0 2), .long ((f1_make M N model (kept &&& (((1 : Int32) <<< ((f1_worst (f1_make M N model kept Fv) M model N (f1_above (f1_make M N model kept Fv) M model N kept limit)) &&& 31)) ^^^ (-1))) (f1_make M N model kept Fv)) 0 3), .long ((f1_make M N model (kept &&& (((1 : Int32) <<< ((f1_worst (f1_make M N model kept Fv) M model N (f1_above (f1_make M N model kept Fv) M model N kept limit)) &&& 31)) ^^^ (-1))) (f1_make M N model kept Fv)) 0 4), .long ((f1_make M N model (kept &&& (((1 : Int32) <<< ((f1_worst (f1_make M N model kept Fv) M model N (f1_above (f1_make M N model kept Fv) M model N kept limit)) &&& 31)) ^^^ (-1))) (f1_make M N model kept Fv)) 0 5), .long ((f1_make M N model (kept &&& (((1 : Int32) <<< ((f1_worst (f1_make M N model kept Fv) M model N (f1_above (f1_make M N model kept Fv) M model N kept limit)) &&& 31)) ^^^ (-1))) (f1_make M N model kept Fv)) 0 6), .long ((f1_make M N model (kept &&& (((1 : Int32) <<< ((f1_worst (f1_make M N model kept Fv) M model N (f1_above (f1_make M N model kept Fv) M model N kept limit)) &&& 31)) ^^^ (-1))) (f1_make M N model kept Fv)) 0 7), .long ((f1_make M N model (kept &&& (((1 : Int32) <<< ((f1_worst (f1_make M N model kept Fv) M model N (f1_above (f1_make M N model kept Fv) M model N kept limit)) &&& 31)) ^^^ (-1))) (f1_make M N model kept Fv)) 0 8), .long ((f1_make M N model (kept &&& (((1 : Int32) <<< ((f1_worst (f1_make M N model kept Fv) M model N (f1_above (f1_make M N model kept Fv) M model N kept limit)) &&& 31)) ^^^ (-1))) (f1_make M N model kept Fv)) 0 9), .long ((f1_make M N model (kept &&& (((1 : Int32) <<< ((f1_worst (f1_make M N model kept Fv) M model N (f1_above (f1_make M N model kept Fv) M model N kept limit)) &&& 31)) ^^^ (-1))) (f1_make M N model kept Fv)) 0 10), .long ((f1_make M N model (kept &&& (((1 : Int32) <<< ((f1_worst (f1_make M N model kept Fv) M model N (f1_above (f1_make M N model kept Fv) M model N kept limit)) &&& 31)) ^^^ (-1))) (f1_make M N model kept Fv)) 0 11), .long ((f1_make M N model (kept &&& (((1 : Int32) <<< ((f1_worst (f1_make M N model kept Fv) M model N (f1_above (f1_make M N model kept Fv) M model N kept limit)) &&& 31)) ^^^ (-1))) (f1_make M N model kept Fv)) 0 12)])), ((af 2), eJJ C 2 (rr af 3 2)), ((af 3), eJ C 4 ((f1_make M N model (kept &&& (((1 : Int32) <<< ((f1_worst (f1_make M N model kept Fv) M model N (f1_above (f1_make M N model kept Fv) M model N kept limit)) &&& 31)) ^^^ (-1))) (f1_make M N model kept Fv)) 1)), ((af 4), eJ C 4 ((f1_make M N model (kept &&& (((1 : Int32) <<< ((f1_worst (f1_make M N model kept Fv) M model N (f1_above (f1_make M N model kept Fv) M model N kept limit)) &&& 31)) ^^^ (-1))) (f1_make M N model kept Fv)) 2)), ((af 5), eJJ C 2 (rr af 6 2)), ((af 6), eJ C 3 ((f1_make M N model (kept &&& (((1 : Int32) <<< ((f1_worst (f1_make M N model kept Fv) M model N (f1_above (f1_make M N model kept Fv) M model N kept limit)) &&& 31)) ^^^ (-1))) (f1_make M N model kept Fv)) 3)), ((af 7), eJ C 3 ((f1_make M N model (kept &&& (((1 : Int32) <<< ((f1_worst (f1_make M N model kept Fv) M model N (f1_above (f1_make M N model kept Fv) M model N kept limit)) &&& 31)) ^^^ (-1))) (f1_make M N model kept Fv)) 4)), ((am 0), .inr (2, [.ref (am 1), .ref (am 2), .ref (am 3), .ref (am 4), .ref (am 5), .int (M 6 0), .int (M 6 1), .int (M 6 2)])), ((am 1), eI C 12 (M 0)), ((am 2), eI C 12 (M 1)), ((am 3), eI C 12 (M 2)), ((am 4), eI C 12 (M 3)), ((am 5), eII C 2 (rr am 6 2)), ((am 6), eI C 12 (M 4)), ((am 7), eI C 12 (M 5))] := hD
        refine lv_if_ne (tgt := 67) hx hb dX1_liars_61 (by decide) (fun c_4 => ?_) (fun c_4 => ?_)
        · refine lv_iload hx hb dX1_liars_67 (lv_at hl 5 rfl) ?_
          refine lv_iconst (v := 1) hx hb dX1_liars_69 (by decide) ?_
          refine lv_iload hx hb dX1_liars_70 (lv_at hl 0 rfl) ?_
          refine lv_ishl hx hb dX1_liars_72 ?_
          refine lv_iconst (v := (-1)) hx hb dX1_liars_73 (by decide) ?_
          refine lv_ixor hx hb dX1_liars_74 ?_
          refine lv_iand hx hb dX1_liars_75 ?_
          refine lv_istore (lv' := [(4, .int (kept &&& (((1 : Int32) <<< ((f1_worst (f1_make M N model kept Fv) M model N (f1_above (f1_make M N model kept Fv) M model N kept limit)) &&& 31)) ^^^ (-1)))), (6, .int (f1_worst (f1_make M N model kept Fv) M model N (f1_above (f1_make M N model kept Fv) M model N kept limit))), (0, .ref (af 0)), (1, .ref (am 0)), (2, .int model), (3, .int limit), (5, .int (nI k))]) hx hb dX1_liars_76 hl (by decide) rfl (fun ls hl => ?_)
          refine lv_iinc (v := nI k + 1) (lv' := [(5, .int (nI k + 1)), (4, .int (kept &&& (((1 : Int32) <<< ((f1_worst (f1_make M N model kept Fv) M model N (f1_above (f1_make M N model kept Fv) M model N kept limit)) &&& 31)) ^^^ (-1)))), (6, .int (f1_worst (f1_make M N model kept Fv) M model N (f1_above (f1_make M N model kept Fv) M model N kept limit))), (0, .ref (af 0)), (1, .ref (am 0)), (2, .int model), (3, .int limit)]) hx hb dX1_liars_78 hl (k := 6) rfl rfl (by decide) rfl (fun ls hl => ?_)
          refine lv_goto (tgt := 9) hx hb dX1_liars_81 (by decide) ?_
          rw [nI_1] at hl
          exact ih9 (k := k + 1) (kept := (kept &&& (((1 : Int32) <<< ((f1_worst (f1_make M N model kept Fv) M model N (f1_above (f1_make M N model kept Fv) M model N kept limit)) &&& 31)) ^^^ (-1)))) (Fv := (f1_make M N model (kept &&& (((1 : Int32) <<< ((f1_worst (f1_make M N model kept Fv) M model N (f1_above (f1_make M N model kept Fv) M model N kept limit)) &&& 31)) ^^^ (-1))) (f1_make M N model kept Fv))) (fv := model) (ls := ls) (H := H) (locs := locs) ⟨by omega, by rw [← h9_1, liL]; rw [if_neg c_3, if_neg c_4], lv_sub hl [3, 4, 5, 6, 1, 0] rfl, hP, hD, hS⟩
        · refine lv_goto (tgt := 84) hx hb dX1_liars_64 (by decide) ?_
          have e_all : (kept, f1_make M N model (kept &&& (((1 : Int32) <<< ((f1_worst (f1_make M N model kept Fv) M model N (f1_above (f1_make M N model kept Fv) M model N kept limit)) &&& 31)) ^^^ (-1))) (f1_make M N model kept Fv), model) = (f1_liars M N model limit F fm) := by rw [← h9_1, liL]; rw [if_neg c_3, if_pos c_4]
          refine lv_aload_n hx hb dX1_liars_84 rfl (lv_at hl 2 rfl) ?_
          refine xri (r := f2_notLost M) (rVN (As := []) (n := 0) (rest := []) ⟨hx, hb, hml, hown, hW⟩ (kX2_notLost l D C am M  ) (wa tw312 rfl) (hNw _ tw411 rfl) (wa tw311 rfl) (was ts5 rfl) (wa tw2 rfl) (by decide +kernel) ⟨Nat.le_of_ble_eq_true rfl, Nat.le_of_ble_eq_true rfl⟩ (pVr (hP.sub [8, 9, 10, 11, 12, 13, 14, 15] rfl) hK hNw 0 rfl rfl) hl.1 rfl (Nat.le_of_ble_eq_true rfl) dX1_liars_85 ⟨Nat.le_of_ble_eq_true rfl, Nat.le_of_ble_eq_true rfl⟩ rfl rfl rfl) ?_
          refine lv_iload hx hb dX1_liars_88 (lv_at hl 5 rfl) ?_
          refine lv_iconst (v := (-1)) hx hb dX1_liars_90 (by decide) ?_
          refine lv_ixor hx hb dX1_liars_91 ?_
          refine lv_iand hx hb dX1_liars_92 ?_
          have hb_0 : (f1_liars M N model limit F fm).2.1 = f1_make M N model (kept &&& (((1 : Int32) <<< ((f1_worst (f1_make M N model kept Fv) M model N (f1_above (f1_make M N model kept Fv) M model N kept limit)) &&& 31)) ^^^ (-1))) (f1_make M N model kept Fv) := by rw [← e_all]
          have hb_1 : (f1_liars M N model limit F fm).2.2 = model := by rw [← e_all]
          have hP9 : va_P D vwCl (((wF af C ((f1_liars M N model limit F fm).2.1) ((f1_liars M N model limit F fm).2.2)) ++ (wM am C M))) H := by rw [hb_0, hb_1]; exact hP
          have hD9 : va_D A (((wF af C ((f1_liars M N model limit F fm).2.1) ((f1_liars M N model limit F fm).2.2)) ++ (wM am C M))) := by rw [hb_0, hb_1]; exact hD
          exact W.iret (v := (f2_notLost M) &&& (kept ^^^ (-1))) hx hb hr (fun t ht _ => ⟨⟨_, (), rfl, (by rw [← e_all]; try rfl), ⟨by rw [ht]; exact hP9, by rw [hAe]; exact hD9⟩⟩, hS.F ht⟩) hS.2.2 dX1_liars_93
