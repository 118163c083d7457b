theorem q_out {v lo hi : Int32} : f6_outside v lo hi = 0 ↔ lo.toInt ≤ v.toInt ∧ v.toInt ≤ hi.toInt := by
  unfold f6_outside
  have a1 := Int32.lt_iff_toInt_lt (x := v) (y := lo)
  have a2 := Int32.le_iff_toInt_le (x := v) (y := hi)
  by_cases h1 : v < lo
  · rw [if_pos h1]
    have := a1.mp h1
    exact ⟨fun h => absurd h (by decide), fun h => by omega⟩
  · rw [if_neg h1]
    have q1 : ¬ v.toInt < lo.toInt := fun q => h1 (a1.mpr q)
    by_cases h2 : v ≤ hi
    · rw [if_pos h2]
      have := a2.mp h2
      exact ⟨fun _ => ⟨by omega, by omega⟩, fun _ => rfl⟩
    · rw [if_neg h2]
      have q2 : ¬ v.toInt ≤ hi.toInt := fun q => h2 (a2.mpr q)
      exact ⟨fun h => absurd h (by decide), fun h => by omega⟩
theorem q_outN {x hi : Int32} {n : Nat} (hh : hi.toInt = (n : Int) - 1) (hn : n ≤ 2 ^ 20) (h : f6_outside x 0 hi = 0) : ∃ k : Nat, k < n ∧ x = nI k := by
  rw [q_out, hh] at h
  exact q_nat h.1 (by omega) (by omega)
theorem q_has {M : Nat → Nat → Int32} {N : Nat} {x : Int32} (hN : M 6 0 = nI N) (hN12 : N ≤ 12) (h : ¬ f2_has M x = 0) : ∃ k : Nat, k < N ∧ x = nI k := by
  unfold f2_has at h
  by_cases h1 : x < 0
  · rw [if_pos h1] at h; exact absurd rfl h
  · rw [if_neg h1] at h
    by_cases h2 : M 6 0 ≤ x
    · rw [if_pos h2] at h; exact absurd rfl h
    · rw [hN, Int32.le_iff_toInt_le, nI_toInt (by omega)] at h2
      rw [Int32.lt_iff_toInt_lt] at h1
      have : (0 : Int32).toInt = 0 := rfl
      exact q_nat (by omega) (by omega) (by omega)
theorem q_hasB {Bk : Nat → Nat → Int32} {N : Nat} {x : Int32} (hN : Bk 8 0 = nI N) (hN60 : N ≤ 60) (h : ¬ f0_has Bk x = 0) : ∃ k : Nat, k < N ∧ x = nI k := by
  unfold f0_has at h
  by_cases h1 : x < 0
  · rw [if_pos h1] at h; exact absurd rfl h
  · rw [if_neg h1] at h
    by_cases h2 : Bk 8 0 ≤ x
    · rw [if_pos h2] at h; exact absurd rfl h
    · rw [hN, Int32.le_iff_toInt_le, nI_toInt (by omega)] at h2
      rw [Int32.lt_iff_toInt_lt] at h1
      have : (0 : Int32).toInt = 0 := rfl
      exact q_nat (by omega) (by omega) (by omega)
theorem q_way {model way what : Int32} (h : f6_outsideFit model way what = 0) : way = 0 ∨ way = 1 := by
  have h2 : f6_outside way 0 1 = 0 := by
    unfold f6_outsideFit at h
    by_cases q1 : f6_outside model 0 2 = 0
    · rw [if_pos q1] at h
      by_cases q2 : f6_outside way 0 1 = 0
      · exact q2
      · rw [if_neg q2] at h; exact absurd h (by decide)
    · rw [if_neg q1] at h; exact absurd h (by decide)
  obtain ⟨k, hk, e⟩ := q_outN (n := 2) rfl (by decide) h2
  subst e
  rcases (show k = 0 ∨ k = 1 by omega) with rfl | rfl
  · exact Or.inl rfl
  · exact Or.inr rfl
theorem q_tool {x : Int32} (h : f6_outside x 0 3 = 0) : x = 0 ∨ x = 1 ∨ x = 2 ∨ x = 3 := by
  obtain ⟨k, hk, e⟩ := q_outN (n := 4) rfl (by decide) h
  subst e
  rcases (show k = 0 ∨ k = 1 ∨ k = 2 ∨ k = 3 by omega) with rfl | rfl | rfl | rfl
  · exact Or.inl rfl
  · exact Or.inr (Or.inl rfl)
  · exact Or.inr (Or.inr (Or.inl rfl))
  · exact Or.inr (Or.inr (Or.inr rfl))
theorem q_lastT {model x : Int32} (h : f6_outside x 0 (f6_lastTerm model) = 0) : ∃ k : Nat, k < 3 ∧ x = nI k := by
  unfold f6_lastTerm at h
  by_cases q : model = 0
  · rw [if_pos q] at h
    obtain ⟨k, hk, e⟩ := q_outN (n := 1) rfl (by decide) h
    exact ⟨k, by omega, e⟩
  · rw [if_neg q] at h
    exact q_outN (n := 3) rfl (by decide) h
theorem q_ge12 {x : Int32} {N : Nat} (hN : x = nI N) (hNb : N ≤ 12) (h : x < 12) : N < 12 := by
  rcases Nat.lt_or_ge N 12 with q | q
  · exact q
  · exact absurd h (by rw [hN, show N = 12 by omega]; decide)
theorem q_ge60 {x : Int32} {N : Nat} (hN : x = nI N) (hNb : N ≤ 60) (h : x < 60) : N < 60 := by
  rcases Nat.lt_or_ge N 60 with q | q
  · exact q
  · exact absurd h (by rw [hN, show N = 60 by omega]; decide)

def f6_mark (M : Nat → Nat → Int32) (N : Nat) (f g i j : Int32) : Int32 := (if (f6_outside f (-5) 5) = 0 then (if (f6_outside g (-5) 5) = 0 then (if (f6_outside i (-3) 3) = 0 then (if (f6_outside j (-3) 3) = 0 then (if (M 6 0) < 12 then (f2_add M N f g i j) else ((-100004))) else ((-100002))) else ((-100002))) else ((-100002))) else ((-100002)))
def f6_mark_M (M : Nat → Nat → Int32) (N : Nat) (f g i j : Int32) : Nat → Nat → Int32 := (if (f6_outside f (-5) 5) = 0 then (if (f6_outside g (-5) 5) = 0 then (if (f6_outside i (-3) 3) = 0 then (if (f6_outside j (-3) 3) = 0 then (if (M 6 0) < 12 then (f2_add_M M N f g i j) else (M)) else (M)) else (M)) else (M)) else (M))
set_option maxHeartbeats 4000000 in
set_option maxRecDepth 100000 in
theorem kX6_mark (l : Launch) (D : va_G) (C : Nat → ClassId) (ax am af ap ab ar : Nat → Nat) (M : Nat → Nat → Int32) (f g i j : Int32) (sz : Nat) (N : Nat) (hN : M 6 0 = nI N) (hN12 : N ≤ 12) : Wi l D C yX6_mark cX6_mark 5 .int 1 [.ref (ax 0), .int f, .int g, .int i, .int j] ((wX ax am af ap ab ar) ++ (wM am C M)) (((wX ax am af ap ab ar) ++ (wM am C (f6_mark_M M N f g i j)))) (f6_mark M N f g i j) sz := by
  refine Met.ofW (cc := cX6_mark) (maxL := 5) (ret := (some .int)) (by decide) rfl ?_
  intro p e s m args below meth c s₁ B hml hv
  obtain ⟨rfl, hsz, hP, hK, hNw, hD0⟩ := hv
  have hx := B.exec
  have hb := B.bytes
  have hr := B.returns
  have hts := atoms_spec (ws := wm yX6_mark cX6_mark 5 (some .int)) B.pre
  have hown : s.vm.findClass RX6 = some m.cls := findClass_of_methodNamed B.named
  have hlocks := B.notSynchronized
  have hW : ∀ w ∈ WA, w.before _ s = true := fun w h => hts w (List.mem_cons_of_mem _ h)
  subst hsz
  have hD := hD0.self (sz := s.heap.size)
  generalize hAe : va_A ((wX ax am af ap ab ar) ++ (wM am C M)) s.heap.size = A at hD ⊢
  have hA : ∀ q : Nat, s.heap.size ≤ q → A q := fun q h => by rw [← hAe]; exact Or.inr h
  have hS : va_S A s.heap s.heap [] := va_S.rf
  have hP : va_P D vwCl [((ax 0), .inr (6, [.ref (am 0), .ref (af 0), .ref (ap 0), .ref (ab 0), .ref (ar 0)])), ((am 0), .inr (2, [.ref (am 1), .ref (am 2), .ref (am 3), .ref (am 4), .ref (am 5), .int (M 6 0), .int (M 6 1), .int (M 6 2)])), ((am 1), eI C 12 (M 0)), ((am 2), eI C 12 (M 1)), ((am 3), eI C 12 (M 2)), ((am 4), eI C 12 (M 3)), ((am 5), eII C 2 (rr am 6 2)), ((am 6), eI C 12 (M 4)), ((am 7), eI C 12 (M 5))] s.heap := hP
  have hD : va_D A [((ax 0), .inr (6, [.ref (am 0), .ref (af 0), .ref (ap 0), .ref (ab 0), .ref (ar 0)])), ((am 0), .inr (2, [.ref (am 1), .ref (am 2), .ref (am 3), .ref (am 4), .ref (am 5), .int (M 6 0), .int (M 6 1), .int (M 6 2)])), ((am 1), eI C 12 (M 0)), ((am 2), eI C 12 (M 1)), ((am 3), eI C 12 (M 2)), ((am 4), eI C 12 (M 3)), ((am 5), eII C 2 (rr am 6 2)), ((am 6), eI C 12 (M 4)), ((am 7), eI C 12 (M 5))] := hD
  have hl := lv_entry ([.ref (ax 0), .int f, .int g, .int i, .int j]) (n := 5) (Nat.le_of_ble_eq_true rfl)
  rw [lg_entry_eq]
  generalize (lg_sl ([.ref (ax 0), .int f, .int g, .int i, .int j]) ++ List.replicate (5 - (lg_sl ([.ref (ax 0), .int f, .int g, .int i, .int j])).length) Slot.unset).toArray = ls at hl ⊢
  have hl : lv_has ls 5 [(0, .ref (ax 0)), (1, .int f), (2, .int g), (3, .int i), (4, .int j)] := hl
  refine lv_iload_n hx hb dX6_mark_0 rfl (lv_at hl 1 rfl) ?_
  refine lv_bipush (v := (-5)) hx hb dX6_mark_1 (by decide) ?_
  refine lv_iconst (v := 5) hx hb dX6_mark_3 (by decide) ?_
  refine xri (r := f6_outside f (-5) 5) (rS (As := [.int f, .int (-5), .int 5]) (n := 3) (rest := []) ⟨hx, hb, hml, hown, hW⟩ (kX6_outside l f (-5) 5) (wa tw259 rfl) (wa tw257 rfl) (wa tw258 rfl) (wa tw1 rfl) (by decide +kernel) ⟨Nat.le_of_ble_eq_true rfl, Nat.le_of_ble_eq_true rfl⟩ pS0 hl.1 rfl (Nat.le_of_ble_eq_true rfl) dX6_mark_4 ⟨Nat.le_of_ble_eq_true rfl, Nat.le_of_ble_eq_true rfl⟩ rfl rfl rfl) ?_
  refine lv_if_ne (tgt := 41) hx hb dX6_mark_7 (by decide) (fun c_1 => ?_) (fun c_1 => ?_)
  · refine lv_ldc hx hb hown (hW _ (wa tw260 rfl)) dX6_mark_41 ?_
    have hb_0 : (f6_mark_M M N f g i j) = M := (by simp only [f6_mark, f6_mark_M, if_neg c_1])
    have hP9 : va_P D vwCl (((wX ax am af ap ab ar) ++ (wM am C (f6_mark_M M N f g i j)))) s.heap := by rw [hb_0]; exact hP
    have hD9 : va_D A (((wX ax am af ap ab ar) ++ (wM am C (f6_mark_M M N f g i j)))) := by rw [hb_0]; exact hD
    exact W.iret (v := (-100002)) hx hb hr (fun t ht _ => ⟨⟨_, (), rfl, (by simp only [f6_mark, f6_mark_M, if_neg c_1]), ⟨by rw [ht]; exact hP9, by rw [hAe]; exact hD9⟩⟩, hS.F ht⟩) hS.2.2 dX6_mark_43
  · refine lv_iload_n hx hb dX6_mark_10 rfl (lv_at hl 2 rfl) ?_
    refine lv_bipush (v := (-5)) hx hb dX6_mark_11 (by decide) ?_
    refine lv_iconst (v := 5) hx hb dX6_mark_13 (by decide) ?_
    refine xri (r := f6_outside g (-5) 5) (rS (As := [.int g, .int (-5), .int 5]) (n := 3) (rest := []) ⟨hx, hb, hml, hown, hW⟩ (kX6_outside l g (-5) 5) (wa tw259 rfl) (wa tw257 rfl) (wa tw258 rfl) (wa tw1 rfl) (by decide +kernel) ⟨Nat.le_of_ble_eq_true rfl, Nat.le_of_ble_eq_true rfl⟩ pS0 hl.1 rfl (Nat.le_of_ble_eq_true rfl) dX6_mark_14 ⟨Nat.le_of_ble_eq_true rfl, Nat.le_of_ble_eq_true rfl⟩ rfl rfl rfl) ?_
    refine lv_if_ne (tgt := 41) hx hb dX6_mark_17 (by decide) (fun c_2 => ?_) (fun c_2 => ?_)
    · refine lv_ldc hx hb hown (hW _ (wa tw260 rfl)) dX6_mark_41 ?_
      have hb_0 : (f6_mark_M M N f g i j) = M := (by simp only [f6_mark, f6_mark_M, if_pos c_1, if_neg c_2])
      have hP9 : va_P D vwCl (((wX ax am af ap ab ar) ++ (wM am C (f6_mark_M M N f g i j)))) s.heap := by rw [hb_0]; exact hP
      have hD9 : va_D A (((wX ax am af ap ab ar) ++ (wM am C (f6_mark_M M N f g i j)))) := by rw [hb_0]; exact hD
      exact W.iret (v := (-100002)) hx hb hr (fun t ht _ => ⟨⟨_, (), rfl, (by simp only [f6_mark, f6_mark_M, if_pos c_1, if_neg c_2]), ⟨by rw [ht]; exact hP9, by rw [hAe]; exact hD9⟩⟩, hS.F ht⟩) hS.2.2 dX6_mark_43
    · refine lv_iload_n hx hb dX6_mark_20 rfl (lv_at hl 3 rfl) ?_
      refine lv_bipush (v := (-3)) hx hb dX6_mark_21 (by decide) ?_
      refine lv_iconst (v := 3) hx hb dX6_mark_23 (by decide) ?_
      refine xri (r := f6_outside i (-3) 3) (rS (As := [.int i, .int (-3), .int 3]) (n := 3) (rest := []) ⟨hx, hb, hml, hown, hW⟩ (kX6_outside l i (-3) 3) (wa tw259 rfl) (wa tw257 rfl) (wa tw258 rfl) (wa tw1 rfl) (by decide +kernel) ⟨Nat.le_of_ble_eq_true rfl, Nat.le_of_ble_eq_true rfl⟩ pS0 hl.1 rfl (Nat.le_of_ble_eq_true rfl) dX6_mark_24 ⟨Nat.le_of_ble_eq_true rfl, Nat.le_of_ble_eq_true rfl⟩ rfl rfl rfl) ?_
      refine lv_if_ne (tgt := 41) hx hb dX6_mark_27 (by decide) (fun c_3 => ?_) (fun c_3 => ?_)
      · refine lv_ldc hx hb hown (hW _ (wa tw260 rfl)) dX6_mark_41 ?_
        have hb_0 : (f6_mark_M M N f g i j) = M := (by simp only [f6_mark, f6_mark_M, if_pos c_1, if_pos c_2, if_neg c_3])
        have hP9 : va_P D vwCl (((wX ax am af ap ab ar) ++ (wM am C (f6_mark_M M N f g i j)))) s.heap := by rw [hb_0]; exact hP
        have hD9 : va_D A (((wX ax am af ap ab ar) ++ (wM am C (f6_mark_M M N f g i j)))) := by rw [hb_0]; exact hD
        exact W.iret (v := (-100002)) hx hb hr (fun t ht _ => ⟨⟨_, (), rfl, (by simp only [f6_mark, f6_mark_M, if_pos c_1, if_pos c_2, if_neg c_3]), ⟨by rw [ht]; exact hP9, by rw [hAe]; exact hD9⟩⟩, hS.F ht⟩) hS.2.2 dX6_mark_43
      · refine lv_iload hx hb dX6_mark_30 (lv_at hl 4 rfl) ?_
        refine lv_bipush (v := (-3)) hx hb dX6_mark_32 (by decide) ?_
        refine lv_iconst (v := 3) hx hb dX6_mark_34 (by decide) ?_
        refine xri (r := f6_outside j (-3) 3) (rS (As := [.int j, .int (-3), .int 3]) (n := 3) (rest := []) ⟨hx, hb, hml, hown, hW⟩ (kX6_outside l j (-3) 3) (wa tw259 rfl) (wa tw257 rfl) (wa tw258 rfl) (wa tw1 rfl) (by decide +kernel) ⟨Nat.le_of_ble_eq_true rfl, Nat.le_of_ble_eq_true rfl⟩ pS0 hl.1 rfl (Nat.le_of_ble_eq_true rfl) dX6_mark_35 ⟨Nat.le_of_ble_eq_true rfl, Nat.le_of_ble_eq_true rfl⟩ rfl rfl rfl) ?_
        refine lv_if_eq (tgt := 44) hx hb dX6_mark_38 (by decide) (fun c_4 => ?_) (fun c_4 => ?_)
        · refine lv_aload_n hx hb dX6_mark_44 rfl (lv_at hl 0 rfl) ?_
          refine va_get (D := D) (ci := 6) (C := RX6) (T := TX6) (N := 5) hx hb hW inX6 hown hK hP 0 rfl rfl 0 (by decide) (hW _ (wa tw237 rfl)) (fun _ h9 => h9) rfl dX6_mark_45 ?_
          refine va_getN (D := D) (host := "FieldAfterField") (ci := 2) (C := RX2) (T := TX2) (N := 8) hx hb hW inX2 hown hK hP 1 rfl rfl 5 (by decide) (va_Nw.use rfl (hNw _ tw41 rfl)) (fun _ h9 => h9) rfl dX6_mark_48 ?_
          refine lv_bipush (v := 12) hx hb dX6_mark_51 (by decide) ?_
          refine lv_icmp_lt (tgt := 59) hx hb dX6_mark_53 (by decide) (fun c_5 => ?_) (fun c_5 => ?_)
          · have hlt : N < 12 := q_ge12 hN hN12 c_5
            refine lv_aload_n hx hb dX6_mark_59 rfl (lv_at hl 0 rfl) ?_
            refine va_get (D := D) (ci := 6) (C := RX6) (T := TX6) (N := 5) hx hb hW inX6 hown hK hP 0 rfl rfl 0 (by decide) (hW _ (wa tw237 rfl)) (fun _ h9 => h9) rfl dX6_mark_60 ?_
            refine lv_iload_n hx hb dX6_mark_63 rfl (lv_at hl 1 rfl) ?_
            refine lv_iload_n hx hb dX6_mark_64 rfl (lv_at hl 2 rfl) ?_
            refine lv_iload_n hx hb dX6_mark_65 rfl (lv_at hl 3 rfl) ?_
            refine lv_iload hx hb dX6_mark_66 (lv_at hl 4 rfl) ?_
            refine xwi (wr := [((ax 0), .inr (6, [.ref (am 0), .ref (af 0), .ref (ap 0), .ref (ab 0), .ref (ar 0)]))]) (rVN (As := [.int f, .int g, .int i, .int j]) (n := 4) (rest := []) ⟨hx, hb, hml, hown, hW⟩ (kX2_add l D C am M f g i j s.heap.size N hN hlt) (wa tw265 rfl) (hNw _ tw262 rfl) (wa tw264 rfl) (was ts0 rfl) (wa tw2 rfl) (by decide +kernel) ⟨Nat.le_of_ble_eq_true rfl, Nat.le_of_ble_eq_true rfl⟩ (pVw (hP.sub [1, 2, 3, 4, 5, 6, 7, 8] rfl) (hD.sub [1, 2, 3, 4, 5, 6, 7, 8] (by decide) rfl) hK hNw 0 rfl rfl) hl.1 rfl (Nat.le_of_ble_eq_true rfl) dX6_mark_68 ⟨Nat.le_of_ble_eq_true rfl, Nat.le_of_ble_eq_true rfl⟩ rfl rfl rfl) hP hD hS hA [1, 2, 3, 4, 5, 6, 7, 8] [0] rfl rfl (by decide) (by decide) (fun H locs hP hD hS => ?_)
            have hP : va_P D vwCl [((ax 0), .inr (6, [.ref (am 0), .ref (af 0), .ref (ap 0), .ref (ab 0), .ref (ar 0)])), ((am 0), .inr (2, [.ref (am 1), .ref (am 2), .ref (am 3), .ref (am 4), .ref (am 5), .int ((f2_add_M M N f g i j) 6 0), .int ((f2_add_M M N f g i j) 6 1), .int ((f2_add_M M N f g i j) 6 2)])), ((am 1), eI C 12 ((f2_add_M M N f g i j) 0)), ((am 2), eI C 12 ((f2_add_M M N f g i j) 1)), ((am 3), eI C 12 ((f2_add_M M N f g i j) 2)), ((am 4), eI C 12 ((f2_add_M M N f g i j) 3)), ((am 5), eII C 2 (rr am 6 2)), ((am 6), eI C 12 ((f2_add_M M N f g i j) 4)), ((am 7), eI C 12 ((f2_add_M M N f g i j) 5))] H := hP
            have hD : va_D A [((ax 0), .inr (6, [.ref (am 0), .ref (af 0), .ref (ap 0), .ref (ab 0), .ref (ar 0)])), ((am 0), .inr (2, [.ref (am 1), .ref (am 2), .ref (am 3), .ref (am 4), .ref (am 5), .int ((f2_add_M M N f g i j) 6 0), .int ((f2_add_M M N f g i j) 6 1), .int ((f2_add_M M N f g i j) 6 2)])), ((am 1), eI C 12 ((f2_add_M M N f g i j) 0)), ((am 2), eI C 12 ((f2_add_M M N f g i j) 1)), ((am 3), eI C 12 ((f2_add_M M N f g i j) 2)), ((am 4), eI C 12 ((f2_add_M M N f g i j) 3)), ((am 5), eII C 2 (rr am 6 2)), ((am 6), eI C 12 ((f2_add_M M N f g i j) 4)), ((am 7), eI C 12 ((f2_add_M M N f g i j) 5))] := hD
            have hb_0 : (f6_mark_M M N f g i j) = f2_add_M M N f g i j := (by simp only [f6_mark, f6_mark_M, if_pos c_1, if_pos c_2, if_pos c_3, if_pos c_4, if_pos c_5])
            have hP9 : va_P D vwCl (((wX ax am af ap ab ar) ++ (wM am C (f6_mark_M M N f g i j)))) H := by rw [hb_0]; exact hP
            have hD9 : va_D A (((wX ax am af ap ab ar) ++ (wM am C (f6_mark_M M N f g i j)))) := by rw [hb_0]; exact hD
            exact W.iret (v := f2_add M N f g i j) hx hb hr (fun t ht _ => ⟨⟨_, (), rfl, (by simp only [f6_mark, f6_mark_M, if_pos c_1, if_pos c_2, if_pos c_3, if_pos c_4, if_pos c_5]), ⟨by rw [ht]; exact hP9, by rw [hAe]; exact hD9⟩⟩, hS.F ht⟩) hS.2.2 dX6_mark_71
          · refine lv_ldc hx hb hown (hW _ (wa tw261 rfl)) dX6_mark_56 ?_
            have hb_0 : (f6_mark_M M N f g i j) = M := (by simp only [f6_mark, f6_mark_M, if_pos c_1, if_pos c_2, if_pos c_3, if_pos c_4, if_neg c_5])
            have hP9 : va_P D vwCl (((wX ax am af ap ab ar) ++ (wM am C (f6_mark_M M N f g i j)))) s.heap := by rw [hb_0]; exact hP
            have hD9 : va_D A (((wX ax am af ap ab ar) ++ (wM am C (f6_mark_M M N f g i j)))) := by rw [hb_0]; exact hD
            exact W.iret (v := (-100004)) hx hb hr (fun t ht _ => ⟨⟨_, (), rfl, (by simp only [f6_mark, f6_mark_M, if_pos c_1, if_pos c_2, if_pos c_3, if_pos c_4, if_neg c_5]), ⟨by rw [ht]; exact hP9, by rw [hAe]; exact hD9⟩⟩, hS.F ht⟩) hS.2.2 dX6_mark_58
        · refine lv_ldc hx hb hown (hW _ (wa tw260 rfl)) dX6_mark_41 ?_
          have hb_0 : (f6_mark_M M N f g i j) = M := (by simp only [f6_mark, f6_mark_M, if_pos c_1, if_pos c_2, if_pos c_3, if_neg c_4])
          have hP9 : va_P D vwCl (((wX ax am af ap ab ar) ++ (wM am C (f6_mark_M M N f g i j)))) s.heap := by rw [hb_0]; exact hP
          have hD9 : va_D A (((wX ax am af ap ab ar) ++ (wM am C (f6_mark_M M N f g i j)))) := by rw [hb_0]; exact hD
          exact W.iret (v := (-100002)) hx hb hr (fun t ht _ => ⟨⟨_, (), rfl, (by simp only [f6_mark, f6_mark_M, if_pos c_1, if_pos c_2, if_pos c_3, if_neg c_4]), ⟨by rw [ht]; exact hP9, by rw [hAe]; exact hD9⟩⟩, hS.F ht⟩) hS.2.2 dX6_mark_43

def f6_read (M : Nat → Nat → Int32) (x al ac : Int32) : Int32 := (if (f2_has M x) = 0 then ((-100001)) else (if (f6_outside al (-999) 999) = 0 then (if (f6_outside ac (-999) 999) = 0 then (1) else ((-100002))) else ((-100002))))
def f6_read_M (M : Nat → Nat → Int32) (x al ac : Int32) : Nat → Nat → Int32 := (if (f2_has M x) = 0 then (M) else (if (f6_outside al (-999) 999) = 0 then (if (f6_outside ac (-999) 999) = 0 then (f2_setReads_M M (ix x) al ac) else (M)) else (M)))
set_option maxHeartbeats 4000000 in
set_option maxRecDepth 100000 in
theorem kX6_read (l : Launch) (D : va_G) (C : Nat → ClassId) (ax am af ap ab ar : Nat → Nat) (M : Nat → Nat → Int32) (x al ac : Int32) (sz : Nat) (N : Nat) (hN : M 6 0 = nI N) (hN12 : N ≤ 12) : Wi l D C yX6_read cX6_read 4 .int 1 [.ref (ax 0), .int x, .int al, .int ac] ((wX ax am af ap ab ar) ++ (wM am C M)) (((wX ax am af ap ab ar) ++ (wM am C (f6_read_M M x al ac)))) (f6_read M x al ac) sz := by
  refine Met.ofW (cc := cX6_read) (maxL := 4) (ret := (some .int)) (by decide) rfl ?_
  intro p e s m args below meth c s₁ B hml hv
  obtain ⟨rfl, hsz, hP, hK, hNw, hD0⟩ := hv
  have hx := B.exec
  have hb := B.bytes
  have hr := B.returns
  have hts := atoms_spec (ws := wm yX6_read cX6_read 4 (some .int)) B.pre
  have hown : s.vm.findClass RX6 = some m.cls := findClass_of_methodNamed B.named
  have hlocks := B.notSynchronized
  have hW : ∀ w ∈ WA, w.before _ s = true := fun w h => hts w (List.mem_cons_of_mem _ h)
  subst hsz
  have hD := hD0.self (sz := s.heap.size)
  generalize hAe : va_A ((wX ax am af ap ab ar) ++ (wM am C M)) s.heap.size = A at hD ⊢
  have hA : ∀ q : Nat, s.heap.size ≤ q → A q := fun q h => by rw [← hAe]; exact Or.inr h
  have hS : va_S A s.heap s.heap [] := va_S.rf
  have hP : va_P D vwCl [((ax 0), .inr (6, [.ref (am 0), .ref (af 0), .ref (ap 0), .ref (ab 0), .ref (ar 0)])), ((am 0), .inr (2, [.ref (am 1), .ref (am 2), .ref (am 3), .ref (am 4), .ref (am 5), .int (M 6 0), .int (M 6 1), .int (M 6 2)])), ((am 1), eI C 12 (M 0)), ((am 2), eI C 12 (M 1)), ((am 3), eI C 12 (M 2)), ((am 4), eI C 12 (M 3)), ((am 5), eII C 2 (rr am 6 2)), ((am 6), eI C 12 (M 4)), ((am 7), eI C 12 (M 5))] s.heap := hP
  have hD : va_D A [((ax 0), .inr (6, [.ref (am 0), .ref (af 0), .ref (ap 0), .ref (ab 0), .ref (ar 0)])), ((am 0), .inr (2, [.ref (am 1), .ref (am 2), .ref (am 3), .ref (am 4), .ref (am 5), .int (M 6 0), .int (M 6 1), .int (M 6 2)])), ((am 1), eI C 12 (M 0)), ((am 2), eI C 12 (M 1)), ((am 3), eI C 12 (M 2)), ((am 4), eI C 12 (M 3)), ((am 5), eII C 2 (rr am 6 2)), ((am 6), eI C 12 (M 4)), ((am 7), eI C 12 (M 5))] := hD
  have hl := lv_entry ([.ref (ax 0), .int x, .int al, .int ac]) (n := 4) (Nat.le_of_ble_eq_true rfl)
  rw [lg_entry_eq]
  generalize (lg_sl ([.ref (ax 0), .int x, .int al, .int ac]) ++ List.replicate (4 - (lg_sl ([.ref (ax 0), .int x, .int al, .int ac])).length) Slot.unset).toArray = ls at hl ⊢
  have hl : lv_has ls 4 [(0, .ref (ax 0)), (1, .int x), (2, .int al), (3, .int ac)] := hl
  refine lv_aload_n hx hb dX6_read_0 rfl (lv_at hl 0 rfl) ?_
  refine va_get (D := D) (ci := 6) (C := RX6) (T := TX6) (N := 5) hx hb hW inX6 hown hK hP 0 rfl rfl 0 (by decide) (hW _ (wa tw237 rfl)) (fun _ h9 => h9) rfl dX6_read_1 ?_
  refine lv_iload_n hx hb dX6_read_4 rfl (lv_at hl 1 rfl) ?_
  refine xri (r := f2_has M x) (rVN (As := [.int x]) (n := 1) (rest := []) ⟨hx, hb, hml, hown, hW⟩ (kX2_has l D C am M x ) (wa tw273 rfl) (hNw _ tw270 rfl) (wa tw272 rfl) (was ts1 rfl) (wa tw2 rfl) (by decide +kernel) ⟨Nat.le_of_ble_eq_true rfl, Nat.le_of_ble_eq_true rfl⟩ (pVr (hP.sub [1, 2, 3, 4, 5, 6, 7, 8] rfl) hK hNw 0 rfl rfl) hl.1 rfl (Nat.le_of_ble_eq_true rfl) dX6_read_5 ⟨Nat.le_of_ble_eq_true rfl, Nat.le_of_ble_eq_true rfl⟩ rfl rfl rfl) ?_
  refine lv_if_ne (tgt := 14) hx hb dX6_read_8 (by decide) (fun c_1 => ?_) (fun c_1 => ?_)
  · obtain ⟨k, hk, rfl⟩ := q_has hN hN12 c_1
    have hix_k : ix (nI k) = k := ix_nI (by omega)
    refine lv_iload_n hx hb dX6_read_14 rfl (lv_at hl 2 rfl) ?_
    refine lv_sipush (v := (-999)) hx hb dX6_read_15 (by decide) ?_
    refine lv_sipush (v := 999) hx hb dX6_read_18 (by decide) ?_
    refine xri (r := f6_outside al (-999) 999) (rS (As := [.int al, .int (-999), .int 999]) (n := 3) (rest := []) ⟨hx, hb, hml, hown, hW⟩ (kX6_outside l al (-999) 999) (wa tw259 rfl) (wa tw257 rfl) (wa tw258 rfl) (wa tw1 rfl) (by decide +kernel) ⟨Nat.le_of_ble_eq_true rfl, Nat.le_of_ble_eq_true rfl⟩ pS0 hl.1 rfl (Nat.le_of_ble_eq_true rfl) dX6_read_21 ⟨Nat.le_of_ble_eq_true rfl, Nat.le_of_ble_eq_true rfl⟩ rfl rfl rfl) ?_
    refine lv_if_ne (tgt := 40) hx hb dX6_read_24 (by decide) (fun c_2 => ?_) (fun c_2 => ?_)
    · refine lv_ldc hx hb hown (hW _ (wa tw260 rfl)) dX6_read_40 ?_
      have hb_0 : (f6_read_M M (nI k) al ac) = M := (by simp only [f6_read, f6_read_M, if_neg c_1, if_neg c_2, hix_k])
      have hP9 : va_P D vwCl (((wX ax am af ap ab ar) ++ (wM am C (f6_read_M M (nI k) al ac)))) s.heap := by rw [hb_0]; exact hP
      have hD9 : va_D A (((wX ax am af ap ab ar) ++ (wM am C (f6_read_M M (nI k) al ac)))) := by rw [hb_0]; exact hD
      exact W.iret (v := (-100002)) hx hb hr (fun t ht _ => ⟨⟨_, (), rfl, (by simp only [f6_read, f6_read_M, if_neg c_1, if_neg c_2, hix_k]), ⟨by rw [ht]; exact hP9, by rw [hAe]; exact hD9⟩⟩, hS.F ht⟩) hS.2.2 dX6_read_42
    · refine lv_iload_n hx hb dX6_read_27 rfl (lv_at hl 3 rfl) ?_
      refine lv_sipush (v := (-999)) hx hb dX6_read_28 (by decide) ?_
      refine lv_sipush (v := 999) hx hb dX6_read_31 (by decide) ?_
      refine xri (r := f6_outside ac (-999) 999) (rS (As := [.int ac, .int (-999), .int 999]) (n := 3) (rest := []) ⟨hx, hb, hml, hown, hW⟩ (kX6_outside l ac (-999) 999) (wa tw259 rfl) (wa tw257 rfl) (wa tw258 rfl) (wa tw1 rfl) (by decide +kernel) ⟨Nat.le_of_ble_eq_true rfl, Nat.le_of_ble_eq_true rfl⟩ pS0 hl.1 rfl (Nat.le_of_ble_eq_true rfl) dX6_read_34 ⟨Nat.le_of_ble_eq_true rfl, Nat.le_of_ble_eq_true rfl⟩ rfl rfl rfl) ?_
      refine lv_if_eq (tgt := 43) hx hb dX6_read_37 (by decide) (fun c_3 => ?_) (fun c_3 => ?_)
      · refine lv_aload_n hx hb dX6_read_43 rfl (lv_at hl 0 rfl) ?_
        refine va_get (D := D) (ci := 6) (C := RX6) (T := TX6) (N := 5) hx hb hW inX6 hown hK hP 0 rfl rfl 0 (by decide) (hW _ (wa tw237 rfl)) (fun _ h9 => h9) rfl dX6_read_44 ?_
        refine lv_iload_n hx hb dX6_read_47 rfl (lv_at hl 1 rfl) ?_
        refine lv_iload_n hx hb dX6_read_48 rfl (lv_at hl 2 rfl) ?_
        refine lv_iload_n hx hb dX6_read_49 rfl (lv_at hl 3 rfl) ?_
        refine xwv (wr := [((ax 0), .inr (6, [.ref (am 0), .ref (af 0), .ref (ap 0), .ref (ab 0), .ref (ar 0)]))]) (rVN (As := [.int (nI k), .int al, .int ac]) (n := 3) (rest := []) ⟨hx, hb, hml, hown, hW⟩ (kX2_setReads l D C am M k al ac s.heap.size (by omega)) (wa tw278 rfl) (hNw _ tw275 rfl) (wa tw277 rfl) (was ts2 rfl) (wa tw2 rfl) (by decide +kernel) ⟨Nat.le_of_ble_eq_true rfl, Nat.le_of_ble_eq_true rfl⟩ (pVw (hP.sub [1, 2, 3, 4, 5, 6, 7, 8] rfl) (hD.sub [1, 2, 3, 4, 5, 6, 7, 8] (by decide) rfl) hK hNw 0 rfl rfl) hl.1 rfl (Nat.le_of_ble_eq_true rfl) dX6_read_50 ⟨Nat.le_of_ble_eq_true rfl, Nat.le_of_ble_eq_true rfl⟩ rfl rfl rfl) hP hD hS hA [1, 2, 3, 4, 5, 6, 7, 8] [0] rfl rfl (by decide) (by decide) (fun H locs hP hD hS => ?_)
        have hP : va_P D vwCl [((ax 0), .inr (6, [.ref (am 0), .ref (af 0), .ref (ap 0), .ref (ab 0), .ref (ar 0)])), ((am 0), .inr (2, [.ref (am 1), .ref (am 2), .ref (am 3), .ref (am 4), .ref (am 5), .int ((f2_setReads_M M k al ac) 6 0), .int ((f2_setReads_M M k al ac) 6 1), .int ((f2_setReads_M M k al ac) 6 2)])), ((am 1), eI C 12 ((f2_setReads_M M k al ac) 0)), ((am 2), eI C 12 ((f2_setReads_M M k al ac) 1)), ((am 3), eI C 12 ((f2_setReads_M M k al ac) 2)), ((am 4), eI C 12 ((f2_setReads_M M k al ac) 3)), ((am 5), eII C 2 (rr am 6 2)), ((am 6), eI C 12 ((f2_setReads_M M k al ac) 4)), ((am 7), eI C 12 ((f2_setReads_M M k al ac) 5))] H := hP
        have hD : va_D A [((ax 0), .inr (6, [.ref (am 0), .ref (af 0), .ref (ap 0), .ref (ab 0), .ref (ar 0)])), ((am 0), .inr (2, [.ref (am 1), .ref (am 2), .ref (am 3), .ref (am 4), .ref (am 5), .int ((f2_setReads_M M k al ac) 6 0), .int ((f2_setReads_M M k al ac) 6 1), .int ((f2_setReads_M M k al ac) 6 2)])), ((am 1), eI C 12 ((f2_setReads_M M k al ac) 0)), ((am 2), eI C 12 ((f2_setReads_M M k al ac) 1)), ((am 3), eI C 12 ((f2_setReads_M M k al ac) 2)), ((am 4), eI C 12 ((f2_setReads_M M k al ac) 3)), ((am 5), eII C 2 (rr am 6 2)), ((am 6), eI C 12 ((f2_setReads_M M k al ac) 4)), ((am 7), eI C 12 ((f2_setReads_M M k al ac) 5))] := hD
        refine lv_iconst (v := 1) hx hb dX6_read_53 (by decide) ?_
        have hb_0 : (f6_read_M M (nI k) al ac) = f2_setReads_M M k al ac := (by simp only [f6_read, f6_read_M, if_neg c_1, if_pos c_2, if_pos c_3, hix_k])
        have hP9 : va_P D vwCl (((wX ax am af ap ab ar) ++ (wM am C (f6_read_M M (nI k) al ac)))) H := by rw [hb_0]; exact hP
        have hD9 : va_D A (((wX ax am af ap ab ar) ++ (wM am C (f6_read_M M (nI k) al ac)))) := by rw [hb_0]; exact hD
        exact W.iret (v := 1) hx hb hr (fun t ht _ => ⟨⟨_, (), rfl, (by simp only [f6_read, f6_read_M, if_neg c_1, if_pos c_2, if_pos c_3, hix_k]), ⟨by rw [ht]; exact hP9, by rw [hAe]; exact hD9⟩⟩, hS.F ht⟩) hS.2.2 dX6_read_54
      · refine lv_ldc hx hb hown (hW _ (wa tw260 rfl)) dX6_read_40 ?_
        have hb_0 : (f6_read_M M (nI k) al ac) = M := (by simp only [f6_read, f6_read_M, if_neg c_1, if_pos c_2, if_neg c_3, hix_k])
        have hP9 : va_P D vwCl (((wX ax am af ap ab ar) ++ (wM am C (f6_read_M M (nI k) al ac)))) s.heap := by rw [hb_0]; exact hP
        have hD9 : va_D A (((wX ax am af ap ab ar) ++ (wM am C (f6_read_M M (nI k) al ac)))) := by rw [hb_0]; exact hD
        exact W.iret (v := (-100002)) hx hb hr (fun t ht _ => ⟨⟨_, (), rfl, (by simp only [f6_read, f6_read_M, if_neg c_1, if_pos c_2, if_neg c_3, hix_k]), ⟨by rw [ht]; exact hP9, by rw [hAe]; exact hD9⟩⟩, hS.F ht⟩) hS.2.2 dX6_read_42
  · refine lv_ldc hx hb hown (hW _ (wa tw274 rfl)) dX6_read_11 ?_
    have hb_0 : (f6_read_M M x al ac) = M := (by simp only [f6_read, f6_read_M, if_pos c_1])
    have hP9 : va_P D vwCl (((wX ax am af ap ab ar) ++ (wM am C (f6_read_M M x al ac)))) s.heap := by rw [hb_0]; exact hP
    have hD9 : va_D A (((wX ax am af ap ab ar) ++ (wM am C (f6_read_M M x al ac)))) := by rw [hb_0]; exact hD
    exact W.iret (v := (-100001)) hx hb hr (fun t ht _ => ⟨⟨_, (), rfl, (by simp only [f6_read, f6_read_M, if_pos c_1]), ⟨by rw [ht]; exact hP9, by rw [hAe]; exact hD9⟩⟩, hS.F ht⟩) hS.2.2 dX6_read_13

def f6_lose (M : Nat → Nat → Int32) (x : Int32) : Int32 := (if (f2_has M x) = 0 then ((-100001)) else (if (f6_isIn (M 6 1) x) = 0 then (1) else (0)))
def f6_lose_M (M : Nat → Nat → Int32) (x : Int32) : Nat → Nat → Int32 := (if (f2_has M x) = 0 then (M) else (if (f6_isIn (M 6 1) x) = 0 then (f2_forget_M M (ix x)) else (M)))
set_option maxHeartbeats 4000000 in
set_option maxRecDepth 100000 in
theorem kX6_lose (l : Launch) (D : va_G) (C : Nat → ClassId) (ax am af ap ab ar : Nat → Nat) (M : Nat → Nat → Int32) (x : Int32) (sz : Nat) (N : Nat) (hN : M 6 0 = nI N) (hN12 : N ≤ 12) : Wi l D C yX6_lose cX6_lose 2 .int 2 [.ref (ax 0), .int x] ((wX ax am af ap ab ar) ++ (wM am C M)) (((wX ax am af ap ab ar) ++ (wM am C (f6_lose_M M x)))) (f6_lose M x) sz := by
  refine Met.ofW (cc := cX6_lose) (maxL := 2) (ret := (some .int)) (by decide) rfl ?_
  intro p e s m args below meth c s₁ B hml hv
  obtain ⟨rfl, hsz, hP, hK, hNw, hD0⟩ := hv
  have hx := B.exec
  have hb := B.bytes
  have hr := B.returns
  have hts := atoms_spec (ws := wm yX6_lose cX6_lose 2 (some .int)) B.pre
  have hown : s.vm.findClass RX6 = some m.cls := findClass_of_methodNamed B.named
  have hlocks := B.notSynchronized
  have hW : ∀ w ∈ WA, w.before _ s = true := fun w h => hts w (List.mem_cons_of_mem _ h)
  subst hsz
  have hD := hD0.self (sz := s.heap.size)
  generalize hAe : va_A ((wX ax am af ap ab ar) ++ (wM am C M)) s.heap.size = A at hD ⊢
  have hA : ∀ q : Nat, s.heap.size ≤ q → A q := fun q h => by rw [← hAe]; exact Or.inr h
  have hS : va_S A s.heap s.heap [] := va_S.rf
  have hP : va_P D vwCl [((ax 0), .inr (6, [.ref (am 0), .ref (af 0), .ref (ap 0), .ref (ab 0), .ref (ar 0)])), ((am 0), .inr (2, [.ref (am 1), .ref (am 2), .ref (am 3), .ref (am 4), .ref (am 5), .int (M 6 0), .int (M 6 1), .int (M 6 2)])), ((am 1), eI C 12 (M 0)), ((am 2), eI C 12 (M 1)), ((am 3), eI C 12 (M 2)), ((am 4), eI C 12 (M 3)), ((am 5), eII C 2 (rr am 6 2)), ((am 6), eI C 12 (M 4)), ((am 7), eI C 12 (M 5))] s.heap := hP
  have hD : va_D A [((ax 0), .inr (6, [.ref (am 0), .ref (af 0), .ref (ap 0), .ref (ab 0), .ref (ar 0)])), ((am 0), .inr (2, [.ref (am 1), .ref (am 2), .ref (am 3), .ref (am 4), .ref (am 5), .int (M 6 0), .int (M 6 1), .int (M 6 2)])), ((am 1), eI C 12 (M 0)), ((am 2), eI C 12 (M 1)), ((am 3), eI C 12 (M 2)), ((am 4), eI C 12 (M 3)), ((am 5), eII C 2 (rr am 6 2)), ((am 6), eI C 12 (M 4)), ((am 7), eI C 12 (M 5))] := hD
  have hl := lv_entry ([.ref (ax 0), .int x]) (n := 2) (Nat.le_of_ble_eq_true rfl)
  rw [lg_entry_eq]
  generalize (lg_sl ([.ref (ax 0), .int x]) ++ List.replicate (2 - (lg_sl ([.ref (ax 0), .int x])).length) Slot.unset).toArray = ls at hl ⊢
  have hl : lv_has ls 2 [(0, .ref (ax 0)), (1, .int x)] := hl
  refine lv_aload_n hx hb dX6_lose_0 rfl (lv_at hl 0 rfl) ?_
  refine va_get (D := D) (ci := 6) (C := RX6) (T := TX6) (N := 5) hx hb hW inX6 hown hK hP 0 rfl rfl 0 (by decide) (hW _ (wa tw237 rfl)) (fun _ h9 => h9) rfl dX6_lose_1 ?_
  refine lv_iload_n hx hb dX6_lose_4 rfl (lv_at hl 1 rfl) ?_
  refine xri (r := f2_has M x) (rVN (As := [.int x]) (n := 1) (rest := []) ⟨hx, hb, hml, hown, hW⟩ (kX2_has l D C am M x ) (wa tw273 rfl) (hNw _ tw270 rfl) (wa tw272 rfl) (was ts1 rfl) (wa tw2 rfl) (by decide +kernel) ⟨Nat.le_of_ble_eq_true rfl, Nat.le_of_ble_eq_true rfl⟩ (pVr (hP.sub [1, 2, 3, 4, 5, 6, 7, 8] rfl) hK hNw 0 rfl rfl) hl.1 rfl (Nat.le_of_ble_eq_true rfl) dX6_lose_5 ⟨Nat.le_of_ble_eq_true rfl, Nat.le_of_ble_eq_true rfl⟩ rfl rfl rfl) ?_
  refine lv_if_ne (tgt := 14) hx hb dX6_lose_8 (by decide) (fun c_1 => ?_) (fun c_1 => ?_)
  · obtain ⟨k, hk, rfl⟩ := q_has hN hN12 c_1
    have hix_k : ix (nI k) = k := ix_nI (by omega)
    refine lv_aload_n hx hb dX6_lose_14 rfl (lv_at hl 0 rfl) ?_
    refine va_get (D := D) (ci := 6) (C := RX6) (T := TX6) (N := 5) hx hb hW inX6 hown hK hP 0 rfl rfl 0 (by decide) (hW _ (wa tw237 rfl)) (fun _ h9 => h9) rfl dX6_lose_15 ?_
    refine va_getN (D := D) (host := "FieldAfterField") (ci := 2) (C := RX2) (T := TX2) (N := 8) hx hb hW inX2 hown hK hP 1 rfl rfl 6 (by decide) (va_Nw.use rfl (hNw _ tw44 rfl)) (fun _ h9 => h9) rfl dX6_lose_18 ?_
    refine lv_iload_n hx hb dX6_lose_21 rfl (lv_at hl 1 rfl) ?_
    refine xri (r := f6_isIn (M 6 1) (nI k)) (rS (As := [.int (M 6 1), .int (nI k)]) (n := 2) (rest := []) ⟨hx, hb, hml, hown, hW⟩ (kX6_isIn l (M 6 1) (nI k)) (wa tw285 rfl) (wa tw283 rfl) (wa tw284 rfl) (wa tw1 rfl) (by decide +kernel) ⟨Nat.le_of_ble_eq_true rfl, Nat.le_of_ble_eq_true rfl⟩ pS0 hl.1 rfl (Nat.le_of_ble_eq_true rfl) dX6_lose_22 ⟨Nat.le_of_ble_eq_true rfl, Nat.le_of_ble_eq_true rfl⟩ rfl rfl rfl) ?_
    refine lv_if_eq (tgt := 30) hx hb dX6_lose_25 (by decide) (fun c_2 => ?_) (fun c_2 => ?_)
    · refine lv_aload_n hx hb dX6_lose_30 rfl (lv_at hl 0 rfl) ?_
      refine va_get (D := D) (ci := 6) (C := RX6) (T := TX6) (N := 5) hx hb hW inX6 hown hK hP 0 rfl rfl 0 (by decide) (hW _ (wa tw237 rfl)) (fun _ h9 => h9) rfl dX6_lose_31 ?_
      refine lv_iload_n hx hb dX6_lose_34 rfl (lv_at hl 1 rfl) ?_
      refine xwv (wr := [((ax 0), .inr (6, [.ref (am 0), .ref (af 0), .ref (ap 0), .ref (ab 0), .ref (ar 0)]))]) (rVN (As := [.int (nI k)]) (n := 1) (rest := []) ⟨hx, hb, hml, hown, hW⟩ (kX2_forget l D C am M k s.heap.size (by omega)) (wa tw289 rfl) (hNw _ tw286 rfl) (wa tw288 rfl) (was ts3 rfl) (wa tw2 rfl) (by decide +kernel) ⟨Nat.le_of_ble_eq_true rfl, Nat.le_of_ble_eq_true rfl⟩ (pVw (hP.sub [1, 2, 3, 4, 5, 6, 7, 8] rfl) (hD.sub [1, 2, 3, 4, 5, 6, 7, 8] (by decide) rfl) hK hNw 0 rfl rfl) hl.1 rfl (Nat.le_of_ble_eq_true rfl) dX6_lose_35 ⟨Nat.le_of_ble_eq_true rfl, Nat.le_of_ble_eq_true rfl⟩ rfl rfl rfl) hP hD hS hA [1, 2, 3, 4, 5, 6, 7, 8] [0] rfl rfl (by decide) (by decide) (fun H locs hP hD hS => ?_)
      have hP : va_P D vwCl [((ax 0), .inr (6, [.ref (am 0), .ref (af 0), .ref (ap 0), .ref (ab 0), .ref (ar 0)])), ((am 0), .inr (2, [.ref (am 1), .ref (am 2), .ref (am 3), .ref (am 4), .ref (am 5), .int ((f2_forget_M M k) 6 0), .int ((f2_forget_M M k) 6 1), .int ((f2_forget_M M k) 6 2)])), ((am 1), eI C 12 ((f2_forget_M M k) 0)), ((am 2), eI C 12 ((f2_forget_M M k) 1)), ((am 3), eI C 12 ((f2_forget_M M k) 2)), ((am 4), eI C 12 ((f2_forget_M M k) 3)), ((am 5), eII C 2 (rr am 6 2)), ((am 6), eI C 12 ((f2_forget_M M k) 4)), ((am 7), eI C 12 ((f2_forget_M M k) 5))] H := hP
      have hD : va_D A [((ax 0), .inr (6, [.ref (am 0), .ref (af 0), .ref (ap 0), .ref (ab 0), .ref (ar 0)])), ((am 0), .inr (2, [.ref (am 1), .ref (am 2), .ref (am 3), .ref (am 4), .ref (am 5), .int ((f2_forget_M M k) 6 0), .int ((f2_forget_M M k) 6 1), .int ((f2_forget_M M k) 6 2)])), ((am 1), eI C 12 ((f2_forget_M M k) 0)), ((am 2), eI C 12 ((f2_forget_M M k) 1)), ((am 3), eI C 12 ((f2_forget_M M k) 2)), ((am 4), eI C 12 ((f2_forget_M M k) 3)), ((am 5), eII C 2 (rr am 6 2)), ((am 6), eI C 12 ((f2_forget_M M k) 4)), ((am 7), eI C 12 ((f2_forget_M M k) 5))] := hD
      refine lv_iconst (v := 1) hx hb dX6_lose_38 (by decide) ?_
      have hb_0 : (f6_lose_M M (nI k)) = f2_forget_M M k := (by simp only [f6_lose, f6_lose_M, if_neg c_1, if_pos c_2, hix_k])
      have hP9 : va_P D vwCl (((wX ax am af ap ab ar) ++ (wM am C (f6_lose_M M (nI k))))) H := by rw [hb_0]; exact hP
      have hD9 : va_D A (((wX ax am af ap ab ar) ++ (wM am C (f6_lose_M M (nI k))))) := by rw [hb_0]; exact hD
      exact W.iret (v := 1) hx hb hr (fun t ht _ => ⟨⟨_, (), rfl, (by simp only [f6_lose, f6_lose_M, if_neg c_1, if_pos c_2, hix_k]), ⟨by rw [ht]; exact hP9, by rw [hAe]; exact hD9⟩⟩, hS.F ht⟩) hS.2.2 dX6_lose_39
    · refine lv_iconst (v := 0) hx hb dX6_lose_28 (by decide) ?_
      have hb_0 : (f6_lose_M M (nI k)) = M := (by simp only [f6_lose, f6_lose_M, if_neg c_1, if_neg c_2, hix_k])
      have hP9 : va_P D vwCl (((wX ax am af ap ab ar) ++ (wM am C (f6_lose_M M (nI k))))) s.heap := by rw [hb_0]; exact hP
      have hD9 : va_D A (((wX ax am af ap ab ar) ++ (wM am C (f6_lose_M M (nI k))))) := by rw [hb_0]; exact hD
      exact W.iret (v := 0) hx hb hr (fun t ht _ => ⟨⟨_, (), rfl, (by simp only [f6_lose, f6_lose_M, if_neg c_1, if_neg c_2, hix_k]), ⟨by rw [ht]; exact hP9, by rw [hAe]; exact hD9⟩⟩, hS.F ht⟩) hS.2.2 dX6_lose_29
  · refine lv_ldc hx hb hown (hW _ (wa tw274 rfl)) dX6_lose_11 ?_
    have hb_0 : (f6_lose_M M x) = M := (by simp only [f6_lose, f6_lose_M, if_pos c_1])
    have hP9 : va_P D vwCl (((wX ax am af ap ab ar) ++ (wM am C (f6_lose_M M x)))) s.heap := by rw [hb_0]; exact hP
    have hD9 : va_D A (((wX ax am af ap ab ar) ++ (wM am C (f6_lose_M M x)))) := by rw [hb_0]; exact hD
    exact W.iret (v := (-100001)) hx hb hr (fun t ht _ => ⟨⟨_, (), rfl, (by simp only [f6_lose, f6_lose_M, if_pos c_1]), ⟨by rw [ht]; exact hP9, by rw [hAe]; exact hD9⟩⟩, hS.F ht⟩) hS.2.2 dX6_lose_13

def f6_told (M : Nat → Nat → Int32) (x what : Int32) : Int32 := (if (f2_has M x) = 0 then ((-100001)) else (if what = 0 then ((M 0) (ix x)) else (if what = 1 then ((M 1) (ix x)) else (if what = 2 then ((M 2) (ix x)) else (if what = 3 then ((M 3) (ix x)) else (if what = 4 then ((M 4) (ix x)) else (if what = 5 then ((M 5) (ix x)) else (if what = 6 then (if (f6_isIn (M 6 1) x) = 0 then (0) else (1)) else (if what = 7 then (if (f6_isIn (M 6 2) x) = 0 then (0) else (1)) else ((-100002)))))))))))
set_option maxHeartbeats 4000000 in
set_option maxRecDepth 100000 in
theorem kX6_told (l : Launch) (D : va_G) (C : Nat → ClassId) (ax am af ap ab ar : Nat → Nat) (M : Nat → Nat → Int32) (x what : Int32) (N : Nat) (hN : M 6 0 = nI N) (hN12 : N ≤ 12) : Ri l D C yX6_told cX6_told 3 .int 1 [.ref (ax 0), .int x, .int what] ((wX ax am af ap ab ar) ++ (wM am C M)) (f6_told M x what) := by
  refine Met.ofW (cc := cX6_told) (maxL := 3) (ret := (some .int)) (by decide) rfl ?_
  intro p e s m args below meth c s₁ B hml hv
  obtain ⟨rfl, hP, hK, hNw⟩ := hv
  have hx := B.exec
  have hb := B.bytes
  have hr := B.returns
  have hts := atoms_spec (ws := wm yX6_told cX6_told 3 (some .int)) B.pre
  have hown : s.vm.findClass RX6 = some m.cls := findClass_of_methodNamed B.named
  have hlocks := B.notSynchronized
  have hW : ∀ w ∈ WA, w.before _ s = true := fun w h => hts w (List.mem_cons_of_mem _ h)
  have hP : va_P D vwCl [((ax 0), .inr (6, [.ref (am 0), .ref (af 0), .ref (ap 0), .ref (ab 0), .ref (ar 0)])), ((am 0), .inr (2, [.ref (am 1), .ref (am 2), .ref (am 3), .ref (am 4), .ref (am 5), .int (M 6 0), .int (M 6 1), .int (M 6 2)])), ((am 1), eI C 12 (M 0)), ((am 2), eI C 12 (M 1)), ((am 3), eI C 12 (M 2)), ((am 4), eI C 12 (M 3)), ((am 5), eII C 2 (rr am 6 2)), ((am 6), eI C 12 (M 4)), ((am 7), eI C 12 (M 5))] s.heap := hP
  have hl := lv_entry ([.ref (ax 0), .int x, .int what]) (n := 3) (Nat.le_of_ble_eq_true rfl)
  rw [lg_entry_eq]
  generalize (lg_sl ([.ref (ax 0), .int x, .int what]) ++ List.replicate (3 - (lg_sl ([.ref (ax 0), .int x, .int what])).length) Slot.unset).toArray = ls at hl ⊢
  have hl : lv_has ls 3 [(0, .ref (ax 0)), (1, .int x), (2, .int what)] := hl
  refine lv_aload_n hx hb dX6_told_0 rfl (lv_at hl 0 rfl) ?_
  refine va_get (D := D) (ci := 6) (C := RX6) (T := TX6) (N := 5) hx hb hW inX6 hown hK hP 0 rfl rfl 0 (by decide) (hW _ (wa tw237 rfl)) (fun _ h9 => h9) rfl dX6_told_1 ?_
  refine lv_iload_n hx hb dX6_told_4 rfl (lv_at hl 1 rfl) ?_
  refine xri (r := f2_has M x) (rVN (As := [.int x]) (n := 1) (rest := []) ⟨hx, hb, hml, hown, hW⟩ (kX2_has l D C am M x ) (wa tw273 rfl) (hNw _ tw270 rfl) (wa tw272 rfl) (was ts1 rfl) (wa tw2 rfl) (by decide +kernel) ⟨Nat.le_of_ble_eq_true rfl, Nat.le_of_ble_eq_true rfl⟩ (pVr (hP.sub [1, 2, 3, 4, 5, 6, 7, 8] rfl) hK hNw 0 rfl rfl) hl.1 rfl (Nat.le_of_ble_eq_true rfl) dX6_told_5 ⟨Nat.le_of_ble_eq_true rfl, Nat.le_of_ble_eq_true rfl⟩ rfl rfl rfl) ?_
  refine lv_if_ne (tgt := 14) hx hb dX6_told_8 (by decide) (fun c_1 => ?_) (fun c_1 => ?_)
  · obtain ⟨k, hk, rfl⟩ := q_has hN hN12 c_1
    have hix_k : ix (nI k) = k := ix_nI (by omega)
    refine lv_iload_n hx hb dX6_told_14 rfl (lv_at hl 2 rfl) ?_
    by_cases c_2 : what = 0
    · refine lv_tableIn (off := 45) (tgt := 60) hx hb dX6_told_15 (by rw [c_2]; decide) (by rw [c_2]; decide) (by rw [c_2]; decide) (by decide) ?_
      refine lv_aload_n hx hb dX6_told_60 rfl (lv_at hl 0 rfl) ?_
      refine va_get (D := D) (ci := 6) (C := RX6) (T := TX6) (N := 5) hx hb hW inX6 hown hK hP 0 rfl rfl 0 (by decide) (hW _ (wa tw237 rfl)) (fun _ h9 => h9) rfl dX6_told_61 ?_
      refine va_getN (D := D) (host := "FieldAfterField") (ci := 2) (C := RX2) (T := TX2) (N := 8) hx hb hW inX2 hown hK hP 1 rfl rfl 0 (by decide) (va_Nw.use rfl (hNw _ tw29 rfl)) (fun _ h9 => h9) rfl dX6_told_64 ?_
      refine lv_iload_n hx hb dX6_told_67 rfl (lv_at hl 1 rfl) ?_
      refine xiald hx hb hK hP 2 rfl k rfl (by omega) (by decide) dX6_told_68 ?_
      exact W.iret (v := (M 0) k) hx hb hr (fun t ht _ => ⟨_, rfl, (by simp only [f6_told, if_neg c_1, if_pos c_2, hix_k]), ht⟩) (fun q h => by cases h) dX6_told_69
    · skip
      by_cases c_3 : what = 1
      · refine lv_tableIn (off := 55) (tgt := 70) hx hb dX6_told_15 (by rw [c_3]; decide) (by rw [c_3]; decide) (by rw [c_3]; decide) (by decide) ?_
        refine lv_aload_n hx hb dX6_told_70 rfl (lv_at hl 0 rfl) ?_
        refine va_get (D := D) (ci := 6) (C := RX6) (T := TX6) (N := 5) hx hb hW inX6 hown hK hP 0 rfl rfl 0 (by decide) (hW _ (wa tw237 rfl)) (fun _ h9 => h9) rfl dX6_told_71 ?_
        refine va_getN (D := D) (host := "FieldAfterField") (ci := 2) (C := RX2) (T := TX2) (N := 8) hx hb hW inX2 hown hK hP 1 rfl rfl 1 (by decide) (va_Nw.use rfl (hNw _ tw31 rfl)) (fun _ h9 => h9) rfl dX6_told_74 ?_
        refine lv_iload_n hx hb dX6_told_77 rfl (lv_at hl 1 rfl) ?_
        refine xiald hx hb hK hP 3 rfl k rfl (by omega) (by decide) dX6_told_78 ?_
        exact W.iret (v := (M 1) k) hx hb hr (fun t ht _ => ⟨_, rfl, (by simp only [f6_told, if_neg c_1, if_neg c_2, if_pos c_3, hix_k]), ht⟩) (fun q h => by cases h) dX6_told_79
      · skip
        by_cases c_4 : what = 2
        · refine lv_tableIn (off := 65) (tgt := 80) hx hb dX6_told_15 (by rw [c_4]; decide) (by rw [c_4]; decide) (by rw [c_4]; decide) (by decide) ?_
          refine lv_aload_n hx hb dX6_told_80 rfl (lv_at hl 0 rfl) ?_
          refine va_get (D := D) (ci := 6) (C := RX6) (T := TX6) (N := 5) hx hb hW inX6 hown hK hP 0 rfl rfl 0 (by decide) (hW _ (wa tw237 rfl)) (fun _ h9 => h9) rfl dX6_told_81 ?_
          refine va_getN (D := D) (host := "FieldAfterField") (ci := 2) (C := RX2) (T := TX2) (N := 8) hx hb hW inX2 hown hK hP 1 rfl rfl 2 (by decide) (va_Nw.use rfl (hNw _ tw33 rfl)) (fun _ h9 => h9) rfl dX6_told_84 ?_
          refine lv_iload_n hx hb dX6_told_87 rfl (lv_at hl 1 rfl) ?_
          refine xiald hx hb hK hP 4 rfl k rfl (by omega) (by decide) dX6_told_88 ?_
          exact W.iret (v := (M 2) k) hx hb hr (fun t ht _ => ⟨_, rfl, (by simp only [f6_told, if_neg c_1, if_neg c_2, if_neg c_3, if_pos c_4, hix_k]), ht⟩) (fun q h => by cases h) dX6_told_89
        · skip
          by_cases c_5 : what = 3
          · refine lv_tableIn (off := 75) (tgt := 90) hx hb dX6_told_15 (by rw [c_5]; decide) (by rw [c_5]; decide) (by rw [c_5]; decide) (by decide) ?_
            refine lv_aload_n hx hb dX6_told_90 rfl (lv_at hl 0 rfl) ?_
            refine va_get (D := D) (ci := 6) (C := RX6) (T := TX6) (N := 5) hx hb hW inX6 hown hK hP 0 rfl rfl 0 (by decide) (hW _ (wa tw237 rfl)) (fun _ h9 => h9) rfl dX6_told_91 ?_
            refine va_getN (D := D) (host := "FieldAfterField") (ci := 2) (C := RX2) (T := TX2) (N := 8) hx hb hW inX2 hown hK hP 1 rfl rfl 3 (by decide) (va_Nw.use rfl (hNw _ tw35 rfl)) (fun _ h9 => h9) rfl dX6_told_94 ?_
            refine lv_iload_n hx hb dX6_told_97 rfl (lv_at hl 1 rfl) ?_
            refine xiald hx hb hK hP 5 rfl k rfl (by omega) (by decide) dX6_told_98 ?_
            exact W.iret (v := (M 3) k) hx hb hr (fun t ht _ => ⟨_, rfl, (by simp only [f6_told, if_neg c_1, if_neg c_2, if_neg c_3, if_neg c_4, if_pos c_5, hix_k]), ht⟩) (fun q h => by cases h) dX6_told_99
          · skip
            by_cases c_6 : what = 4
            · refine lv_tableIn (off := 85) (tgt := 100) hx hb dX6_told_15 (by rw [c_6]; decide) (by rw [c_6]; decide) (by rw [c_6]; decide) (by decide) ?_
              refine lv_aload_n hx hb dX6_told_100 rfl (lv_at hl 0 rfl) ?_
              refine va_get (D := D) (ci := 6) (C := RX6) (T := TX6) (N := 5) hx hb hW inX6 hown hK hP 0 rfl rfl 0 (by decide) (hW _ (wa tw237 rfl)) (fun _ h9 => h9) rfl dX6_told_101 ?_
              refine va_getN (D := D) (host := "FieldAfterField") (ci := 2) (C := RX2) (T := TX2) (N := 8) hx hb hW inX2 hown hK hP 1 rfl rfl 4 (by decide) (va_Nw.use rfl (hNw _ tw38 rfl)) (fun _ h9 => h9) rfl dX6_told_104 ?_
              refine lv_iconst (v := 0) hx hb dX6_told_107 (by decide) ?_
              refine xaaldI hx hb hK hP 6 rfl 0 (nI_lit 0) (by decide) (by decide) (b := (am 6)) rfl dX6_told_108 ?_
              refine lv_iload_n hx hb dX6_told_109 rfl (lv_at hl 1 rfl) ?_
              refine xiald hx hb hK hP 7 rfl k rfl (by omega) (by decide) dX6_told_110 ?_
              exact W.iret (v := (M 4) k) hx hb hr (fun t ht _ => ⟨_, rfl, (by simp only [f6_told, if_neg c_1, if_neg c_2, if_neg c_3, if_neg c_4, if_neg c_5, if_pos c_6, hix_k]), ht⟩) (fun q h => by cases h) dX6_told_111
            · skip
              by_cases c_7 : what = 5
              · refine lv_tableIn (off := 97) (tgt := 112) hx hb dX6_told_15 (by rw [c_7]; decide) (by rw [c_7]; decide) (by rw [c_7]; decide) (by decide) ?_
                refine lv_aload_n hx hb dX6_told_112 rfl (lv_at hl 0 rfl) ?_
                refine va_get (D := D) (ci := 6) (C := RX6) (T := TX6) (N := 5) hx hb hW inX6 hown hK hP 0 rfl rfl 0 (by decide) (hW _ (wa tw237 rfl)) (fun _ h9 => h9) rfl dX6_told_113 ?_
                refine va_getN (D := D) (host := "FieldAfterField") (ci := 2) (C := RX2) (T := TX2) (N := 8) hx hb hW inX2 hown hK hP 1 rfl rfl 4 (by decide) (va_Nw.use rfl (hNw _ tw38 rfl)) (fun _ h9 => h9) rfl dX6_told_116 ?_
                refine lv_iconst (v := 1) hx hb dX6_told_119 (by decide) ?_
                refine xaaldI hx hb hK hP 6 rfl 1 (nI_lit 1) (by decide) (by decide) (b := (am 7)) rfl dX6_told_120 ?_
                refine lv_iload_n hx hb dX6_told_121 rfl (lv_at hl 1 rfl) ?_
                refine xiald hx hb hK hP 8 rfl k rfl (by omega) (by decide) dX6_told_122 ?_
                exact W.iret (v := (M 5) k) hx hb hr (fun t ht _ => ⟨_, rfl, (by simp only [f6_told, if_neg c_1, if_neg c_2, if_neg c_3, if_neg c_4, if_neg c_5, if_neg c_6, if_pos c_7, hix_k]), ht⟩) (fun q h => by cases h) dX6_told_123
              · skip
                by_cases c_8 : what = 6
                · refine lv_tableIn (off := 109) (tgt := 124) hx hb dX6_told_15 (by rw [c_8]; decide) (by rw [c_8]; decide) (by rw [c_8]; decide) (by decide) ?_
                  refine lv_aload_n hx hb dX6_told_124 rfl (lv_at hl 0 rfl) ?_
                  refine va_get (D := D) (ci := 6) (C := RX6) (T := TX6) (N := 5) hx hb hW inX6 hown hK hP 0 rfl rfl 0 (by decide) (hW _ (wa tw237 rfl)) (fun _ h9 => h9) rfl dX6_told_125 ?_
                  refine va_getN (D := D) (host := "FieldAfterField") (ci := 2) (C := RX2) (T := TX2) (N := 8) hx hb hW inX2 hown hK hP 1 rfl rfl 6 (by decide) (va_Nw.use rfl (hNw _ tw44 rfl)) (fun _ h9 => h9) rfl dX6_told_128 ?_
                  refine lv_iload_n hx hb dX6_told_131 rfl (lv_at hl 1 rfl) ?_
                  refine xri (r := f6_isIn (M 6 1) (nI k)) (rS (As := [.int (M 6 1), .int (nI k)]) (n := 2) (rest := []) ⟨hx, hb, hml, hown, hW⟩ (kX6_isIn l (M 6 1) (nI k)) (wa tw285 rfl) (wa tw283 rfl) (wa tw284 rfl) (wa tw1 rfl) (by decide +kernel) ⟨Nat.le_of_ble_eq_true rfl, Nat.le_of_ble_eq_true rfl⟩ pS0 hl.1 rfl (Nat.le_of_ble_eq_true rfl) dX6_told_132 ⟨Nat.le_of_ble_eq_true rfl, Nat.le_of_ble_eq_true rfl⟩ rfl rfl rfl) ?_
                  refine lv_if_eq (tgt := 142) hx hb dX6_told_135 (by decide) (fun c_9 => ?_) (fun c_9 => ?_)
                  · refine lv_iconst (v := 0) hx hb dX6_told_142 (by decide) ?_
                    exact W.iret (v := 0) hx hb hr (fun t ht _ => ⟨_, rfl, (by simp only [f6_told, if_neg c_1, if_neg c_2, if_neg c_3, if_neg c_4, if_neg c_5, if_neg c_6, if_neg c_7, if_pos c_8, if_pos c_9, hix_k]), ht⟩) (fun q h => by cases h) dX6_told_143
                  · refine lv_iconst (v := 1) hx hb dX6_told_138 (by decide) ?_
                    refine lv_goto (tgt := 143) hx hb dX6_told_139 (by decide) ?_
                    exact W.iret (v := 1) hx hb hr (fun t ht _ => ⟨_, rfl, (by simp only [f6_told, if_neg c_1, if_neg c_2, if_neg c_3, if_neg c_4, if_neg c_5, if_neg c_6, if_neg c_7, if_pos c_8, if_neg c_9, hix_k]), ht⟩) (fun q h => by cases h) dX6_told_143
                · skip
                  by_cases c_10 : what = 7
                  · refine lv_tableIn (off := 129) (tgt := 144) hx hb dX6_told_15 (by rw [c_10]; decide) (by rw [c_10]; decide) (by rw [c_10]; decide) (by decide) ?_
                    refine lv_aload_n hx hb dX6_told_144 rfl (lv_at hl 0 rfl) ?_
                    refine va_get (D := D) (ci := 6) (C := RX6) (T := TX6) (N := 5) hx hb hW inX6 hown hK hP 0 rfl rfl 0 (by decide) (hW _ (wa tw237 rfl)) (fun _ h9 => h9) rfl dX6_told_145 ?_
                    refine va_getN (D := D) (host := "FieldAfterField") (ci := 2) (C := RX2) (T := TX2) (N := 8) hx hb hW inX2 hown hK hP 1 rfl rfl 7 (by decide) (va_Nw.use rfl (hNw _ tw46 rfl)) (fun _ h9 => h9) rfl dX6_told_148 ?_
                    refine lv_iload_n hx hb dX6_told_151 rfl (lv_at hl 1 rfl) ?_
                    refine xri (r := f6_isIn (M 6 2) (nI k)) (rS (As := [.int (M 6 2), .int (nI k)]) (n := 2) (rest := []) ⟨hx, hb, hml, hown, hW⟩ (kX6_isIn l (M 6 2) (nI k)) (wa tw285 rfl) (wa tw283 rfl) (wa tw284 rfl) (wa tw1 rfl) (by decide +kernel) ⟨Nat.le_of_ble_eq_true rfl, Nat.le_of_ble_eq_true rfl⟩ pS0 hl.1 rfl (Nat.le_of_ble_eq_true rfl) dX6_told_152 ⟨Nat.le_of_ble_eq_true rfl, Nat.le_of_ble_eq_true rfl⟩ rfl rfl rfl) ?_
                    refine lv_if_eq (tgt := 162) hx hb dX6_told_155 (by decide) (fun c_11 => ?_) (fun c_11 => ?_)
                    · refine lv_iconst (v := 0) hx hb dX6_told_162 (by decide) ?_
                      exact W.iret (v := 0) hx hb hr (fun t ht _ => ⟨_, rfl, (by simp only [f6_told, if_neg c_1, if_neg c_2, if_neg c_3, if_neg c_4, if_neg c_5, if_neg c_6, if_neg c_7, if_neg c_8, if_pos c_10, if_pos c_11, hix_k]), ht⟩) (fun q h => by cases h) dX6_told_163
                    · refine lv_iconst (v := 1) hx hb dX6_told_158 (by decide) ?_
                      refine lv_goto (tgt := 163) hx hb dX6_told_159 (by decide) ?_
                      exact W.iret (v := 1) hx hb hr (fun t ht _ => ⟨_, rfl, (by simp only [f6_told, if_neg c_1, if_neg c_2, if_neg c_3, if_neg c_4, if_neg c_5, if_neg c_6, if_neg c_7, if_neg c_8, if_pos c_10, if_neg c_11, hix_k]), ht⟩) (fun q h => by cases h) dX6_told_163
                  · skip
                    have hsw := q_sw (x := what) 8 (fun k hk => match k, hk with | 0, _ => c_2 | 1, _ => c_3 | 2, _ => c_4 | 3, _ => c_5 | 4, _ => c_6 | 5, _ => c_7 | 6, _ => c_8 | 7, _ => c_10 | k + 8, h => absurd h (by omega))
                    refine lv_tableOut (tgt := 164) hx hb dX6_told_15 (by omega) (by decide) ?_
                    refine lv_ldc hx hb hown (hW _ (wa tw260 rfl)) dX6_told_164 ?_
                    exact W.iret (v := (-100002)) hx hb hr (fun t ht _ => ⟨_, rfl, (by simp only [f6_told, if_neg c_1, if_neg c_2, if_neg c_3, if_neg c_4, if_neg c_5, if_neg c_6, if_neg c_7, if_neg c_8, if_neg c_10, hix_k]), ht⟩) (fun q h => by cases h) dX6_told_166
  · refine lv_ldc hx hb hown (hW _ (wa tw274 rfl)) dX6_told_11 ?_
    exact W.iret (v := (-100001)) hx hb hr (fun t ht _ => ⟨_, rfl, (by simp only [f6_told, if_pos c_1]), ht⟩) (fun q h => by cases h) dX6_told_13

def f6_count (M Bk : Nat → Nat → Int32) (N L : Nat) (what : Int32) : Int32 := (if what = 0 then (M 6 0) else (if what = 1 then (bitC (M 6 1)) else (if what = 2 then (bitC (M 6 2)) else (if what = 3 then (bitC (f2_counting M)) else (if what = 4 then (Bk 8 0) else (if what = 5 then (hmL (Bk 3) L 0 0) else (if what = 6 then (f2_fieldsOf M N (f2_counting M)) else ((-100002)))))))))
set_option maxHeartbeats 4000000 in
set_option maxRecDepth 100000 in
theorem kX6_count (l : Launch) (D : va_G) (C : Nat → ClassId) (ax am af ap ab ar : Nat → Nat) (M : Nat → Nat → Int32) (Bk : Nat → Nat → Int32) (what : Int32) (N : Nat) (hN : M 6 0 = nI N) (hN12 : N ≤ 12) (L : Nat) (hL : Bk 8 0 = nI L) (hL60 : L ≤ 60) : Ri l D C yX6_count cX6_count 2 .int 3 [.ref (ax 0), .int what] ((wX ax am af ap ab ar) ++ (wM am C M) ++ (wB ab C Bk)) (f6_count M Bk N L what) := by
  refine Met.ofW (cc := cX6_count) (maxL := 2) (ret := (some .int)) (by decide) rfl ?_
  intro p e s m args below meth c s₁ B hml hv
  obtain ⟨rfl, hP, hK, hNw⟩ := hv
  have hx := B.exec
  have hb := B.bytes
  have hr := B.returns
  have hts := atoms_spec (ws := wm yX6_count cX6_count 2 (some .int)) B.pre
  have hown : s.vm.findClass RX6 = some m.cls := findClass_of_methodNamed B.named
  have hlocks := B.notSynchronized
  have hW : ∀ w ∈ WA, w.before _ s = true := fun w h => hts w (List.mem_cons_of_mem _ h)
  have hP : va_P D vwCl [((ax 0), .inr (6, [.ref (am 0), .ref (af 0), .ref (ap 0), .ref (ab 0), .ref (ar 0)])), ((am 0), .inr (2, [.ref (am 1), .ref (am 2), .ref (am 3), .ref (am 4), .ref (am 5), .int (M 6 0), .int (M 6 1), .int (M 6 2)])), ((am 1), eI C 12 (M 0)), ((am 2), eI C 12 (M 1)), ((am 3), eI C 12 (M 2)), ((am 4), eI C 12 (M 3)), ((am 5), eII C 2 (rr am 6 2)), ((am 6), eI C 12 (M 4)), ((am 7), eI C 12 (M 5)), ((ab 0), .inr (0, [.ref (ab 1), .ref (ab 2), .ref (ab 3), .ref (ab 4), .ref (ab 5), .int (Bk 8 0), .int (Bk 8 1)])), ((ab 1), eI C 60 (Bk 0)), ((ab 2), eI C 60 (Bk 1)), ((ab 3), eI C 60 (Bk 2)), ((ab 4), eZ C 60 (Bk 3)), ((ab 5), eII C 4 (rr ab 6 4)), ((ab 6), eI C 61 (Bk 4)), ((ab 7), eI C 61 (Bk 5)), ((ab 8), eI C 61 (Bk 6)), ((ab 9), eI C 61 (Bk 7))] s.heap := hP
  have hl := lv_entry ([.ref (ax 0), .int what]) (n := 2) (Nat.le_of_ble_eq_true rfl)
  rw [lg_entry_eq]
  generalize (lg_sl ([.ref (ax 0), .int what]) ++ List.replicate (2 - (lg_sl ([.ref (ax 0), .int what])).length) Slot.unset).toArray = ls at hl ⊢
  have hl : lv_has ls 2 [(0, .ref (ax 0)), (1, .int what)] := hl
  refine lv_iload_n hx hb dX6_count_0 rfl (lv_at hl 1 rfl) ?_
  by_cases c_1 : what = 0
  · refine lv_tableIn (off := 43) (tgt := 44) hx hb dX6_count_1 (by rw [c_1]; decide) (by rw [c_1]; decide) (by rw [c_1]; decide) (by decide) ?_
    refine lv_aload_n hx hb dX6_count_44 rfl (lv_at hl 0 rfl) ?_
    refine va_get (D := D) (ci := 6) (C := RX6) (T := TX6) (N := 5) hx hb hW inX6 hown hK hP 0 rfl rfl 0 (by decide) (hW _ (wa tw237 rfl)) (fun _ h9 => h9) rfl dX6_count_45 ?_
    refine va_getN (D := D) (host := "FieldAfterField") (ci := 2) (C := RX2) (T := TX2) (N := 8) hx hb hW inX2 hown hK hP 1 rfl rfl 5 (by decide) (va_Nw.use rfl (hNw _ tw41 rfl)) (fun _ h9 => h9) rfl dX6_count_48 ?_
    exact W.iret (v := M 6 0) hx hb hr (fun t ht _ => ⟨_, rfl, (by simp only [f6_count, if_pos c_1]), ht⟩) (fun q h => by cases h) dX6_count_51
  · skip
    by_cases c_2 : what = 1
    · refine lv_tableIn (off := 51) (tgt := 52) hx hb dX6_count_1 (by rw [c_2]; decide) (by rw [c_2]; decide) (by rw [c_2]; decide) (by decide) ?_
      refine lv_aload_n hx hb dX6_count_52 rfl (lv_at hl 0 rfl) ?_
      refine va_get (D := D) (ci := 6) (C := RX6) (T := TX6) (N := 5) hx hb hW inX6 hown hK hP 0 rfl rfl 0 (by decide) (hW _ (wa tw237 rfl)) (fun _ h9 => h9) rfl dX6_count_53 ?_
      refine va_getN (D := D) (host := "FieldAfterField") (ci := 2) (C := RX2) (T := TX2) (N := 8) hx hb hW inX2 hown hK hP 1 rfl rfl 6 (by decide) (va_Nw.use rfl (hNw _ tw44 rfl)) (fun _ h9 => h9) rfl dX6_count_56 ?_
      refine xri (r := bitC (M 6 1)) (rS (As := [.int (M 6 1)]) (n := 1) (rest := []) ⟨hx, hb, hml, hown, hW⟩ (kJ6_bitCount_0f7a4 l (M 6 1)) (wa tw301 rfl) (wa tw299 rfl) (wa tw300 rfl) (wa tw9 rfl) (by decide +kernel) ⟨Nat.le_of_ble_eq_true rfl, Nat.le_of_ble_eq_true rfl⟩ pS0 hl.1 rfl (Nat.le_of_ble_eq_true rfl) dX6_count_59 ⟨Nat.le_of_ble_eq_true rfl, Nat.le_of_ble_eq_true rfl⟩ rfl rfl rfl) ?_
      exact W.iret (v := bitC (M 6 1)) hx hb hr (fun t ht _ => ⟨_, rfl, (by simp only [f6_count, if_neg c_1, if_pos c_2]), ht⟩) (fun q h => by cases h) dX6_count_62
    · skip
      by_cases c_3 : what = 2
      · refine lv_tableIn (off := 62) (tgt := 63) hx hb dX6_count_1 (by rw [c_3]; decide) (by rw [c_3]; decide) (by rw [c_3]; decide) (by decide) ?_
        refine lv_aload_n hx hb dX6_count_63 rfl (lv_at hl 0 rfl) ?_
        refine va_get (D := D) (ci := 6) (C := RX6) (T := TX6) (N := 5) hx hb hW inX6 hown hK hP 0 rfl rfl 0 (by decide) (hW _ (wa tw237 rfl)) (fun _ h9 => h9) rfl dX6_count_64 ?_
        refine va_getN (D := D) (host := "FieldAfterField") (ci := 2) (C := RX2) (T := TX2) (N := 8) hx hb hW inX2 hown hK hP 1 rfl rfl 7 (by decide) (va_Nw.use rfl (hNw _ tw46 rfl)) (fun _ h9 => h9) rfl dX6_count_67 ?_
        refine xri (r := bitC (M 6 2)) (rS (As := [.int (M 6 2)]) (n := 1) (rest := []) ⟨hx, hb, hml, hown, hW⟩ (kJ6_bitCount_0f7a4 l (M 6 2)) (wa tw301 rfl) (wa tw299 rfl) (wa tw300 rfl) (wa tw9 rfl) (by decide +kernel) ⟨Nat.le_of_ble_eq_true rfl, Nat.le_of_ble_eq_true rfl⟩ pS0 hl.1 rfl (Nat.le_of_ble_eq_true rfl) dX6_count_70 ⟨Nat.le_of_ble_eq_true rfl, Nat.le_of_ble_eq_true rfl⟩ rfl rfl rfl) ?_
        exact W.iret (v := bitC (M 6 2)) hx hb hr (fun t ht _ => ⟨_, rfl, (by simp only [f6_count, if_neg c_1, if_neg c_2, if_pos c_3]), ht⟩) (fun q h => by cases h) dX6_count_73
      · skip
        by_cases c_4 : what = 3
        · refine lv_tableIn (off := 73) (tgt := 74) hx hb dX6_count_1 (by rw [c_4]; decide) (by rw [c_4]; decide) (by rw [c_4]; decide) (by decide) ?_
          refine lv_aload_n hx hb dX6_count_74 rfl (lv_at hl 0 rfl) ?_
          refine va_get (D := D) (ci := 6) (C := RX6) (T := TX6) (N := 5) hx hb hW inX6 hown hK hP 0 rfl rfl 0 (by decide) (hW _ (wa tw237 rfl)) (fun _ h9 => h9) rfl dX6_count_75 ?_
          refine xri (r := f2_counting M) (rVN (As := []) (n := 0) (rest := []) ⟨hx, hb, hml, hown, hW⟩ (kX2_counting l D C am M  ) (wa tw308 rfl) (hNw _ tw305 rfl) (wa tw307 rfl) (was ts4 rfl) (wa tw2 rfl) (by decide +kernel) ⟨Nat.le_of_ble_eq_true rfl, Nat.le_of_ble_eq_true rfl⟩ (pVr (hP.sub [1, 2, 3, 4, 5, 6, 7, 8] rfl) hK hNw 0 rfl rfl) hl.1 rfl (Nat.le_of_ble_eq_true rfl) dX6_count_78 ⟨Nat.le_of_ble_eq_true rfl, Nat.le_of_ble_eq_true rfl⟩ rfl rfl rfl) ?_
          refine xri (r := bitC (f2_counting M)) (rS (As := [.int (f2_counting M)]) (n := 1) (rest := []) ⟨hx, hb, hml, hown, hW⟩ (kJ6_bitCount_0f7a4 l (f2_counting M)) (wa tw301 rfl) (wa tw299 rfl) (wa tw300 rfl) (wa tw9 rfl) (by decide +kernel) ⟨Nat.le_of_ble_eq_true rfl, Nat.le_of_ble_eq_true rfl⟩ pS0 hl.1 rfl (Nat.le_of_ble_eq_true rfl) dX6_count_81 ⟨Nat.le_of_ble_eq_true rfl, Nat.le_of_ble_eq_true rfl⟩ rfl rfl rfl) ?_
          exact W.iret (v := bitC (f2_counting M)) hx hb hr (fun t ht _ => ⟨_, rfl, (by simp only [f6_count, if_neg c_1, if_neg c_2, if_neg c_3, if_pos c_4]), ht⟩) (fun q h => by cases h) dX6_count_84
        · skip
          by_cases c_5 : what = 4
          · refine lv_tableIn (off := 84) (tgt := 85) hx hb dX6_count_1 (by rw [c_5]; decide) (by rw [c_5]; decide) (by rw [c_5]; decide) (by decide) ?_
            refine lv_aload_n hx hb dX6_count_85 rfl (lv_at hl 0 rfl) ?_
            refine va_get (D := D) (ci := 6) (C := RX6) (T := TX6) (N := 5) hx hb hW inX6 hown hK hP 0 rfl rfl 3 (by decide) (hW _ (wa tw240 rfl)) (fun _ h9 => h9) rfl dX6_count_86 ?_
            refine va_getN (D := D) (host := "FieldAfterField") (ci := 0) (C := RX0) (T := TX0) (N := 7) hx hb hW inX0 hown hK hP 9 rfl rfl 5 (by decide) (va_Nw.use rfl (hNw _ tw184 rfl)) (fun _ h9 => h9) rfl dX6_count_89 ?_
            exact W.iret (v := Bk 8 0) hx hb hr (fun t ht _ => ⟨_, rfl, (by simp only [f6_count, if_neg c_1, if_neg c_2, if_neg c_3, if_neg c_4, if_pos c_5]), ht⟩) (fun q h => by cases h) dX6_count_92
          · skip
            by_cases c_6 : what = 5
            · refine lv_tableIn (off := 92) (tgt := 93) hx hb dX6_count_1 (by rw [c_6]; decide) (by rw [c_6]; decide) (by rw [c_6]; decide) (by decide) ?_
              refine lv_aload_n hx hb dX6_count_93 rfl (lv_at hl 0 rfl) ?_
              refine va_get (D := D) (ci := 6) (C := RX6) (T := TX6) (N := 5) hx hb hW inX6 hown hK hP 0 rfl rfl 3 (by decide) (hW _ (wa tw240 rfl)) (fun _ h9 => h9) rfl dX6_count_94 ?_
              refine xri (r := hmL (Bk 3) L 0 0) (rVN (As := []) (n := 0) (rest := []) ⟨hx, hb, hml, hown, hW⟩ (kX0_howManyRead l D C ab Bk  L hL hL60) (wa tw316 rfl) (hNw _ tw313 rfl) (wa tw315 rfl) (was ts6 rfl) (wa tw6 rfl) (by decide +kernel) ⟨Nat.le_of_ble_eq_true rfl, Nat.le_of_ble_eq_true rfl⟩ (pVr (hP.sub [9, 10, 11, 12, 13, 14, 15, 16, 17, 18] rfl) hK hNw 0 rfl rfl) hl.1 rfl (Nat.le_of_ble_eq_true rfl) dX6_count_97 ⟨Nat.le_of_ble_eq_true rfl, Nat.le_of_ble_eq_true rfl⟩ rfl rfl rfl) ?_
              exact W.iret (v := hmL (Bk 3) L 0 0) hx hb hr (fun t ht _ => ⟨_, rfl, (by simp only [f6_count, if_neg c_1, if_neg c_2, if_neg c_3, if_neg c_4, if_neg c_5, if_pos c_6]), ht⟩) (fun q h => by cases h) dX6_count_100
            · skip
              by_cases c_7 : what = 6
              · refine lv_tableIn (off := 100) (tgt := 101) hx hb dX6_count_1 (by rw [c_7]; decide) (by rw [c_7]; decide) (by rw [c_7]; decide) (by decide) ?_
                refine lv_aload_n hx hb dX6_count_101 rfl (lv_at hl 0 rfl) ?_
                refine va_get (D := D) (ci := 6) (C := RX6) (T := TX6) (N := 5) hx hb hW inX6 hown hK hP 0 rfl rfl 0 (by decide) (hW _ (wa tw237 rfl)) (fun _ h9 => h9) rfl dX6_count_102 ?_
                refine lv_aload_n hx hb dX6_count_105 rfl (lv_at hl 0 rfl) ?_
                refine va_get (D := D) (ci := 6) (C := RX6) (T := TX6) (N := 5) hx hb hW inX6 hown hK hP 0 rfl rfl 0 (by decide) (hW _ (wa tw237 rfl)) (fun _ h9 => h9) rfl dX6_count_106 ?_
                refine xri (r := f2_counting M) (rVN (As := []) (n := 0) (rest := [.ref (am 0)]) ⟨hx, hb, hml, hown, hW⟩ (kX2_counting l D C am M  ) (wa tw308 rfl) (hNw _ tw305 rfl) (wa tw307 rfl) (was ts4 rfl) (wa tw2 rfl) (by decide +kernel) ⟨Nat.le_of_ble_eq_true rfl, Nat.le_of_ble_eq_true rfl⟩ (pVr (hP.sub [1, 2, 3, 4, 5, 6, 7, 8] rfl) hK hNw 0 rfl rfl) hl.1 rfl (Nat.le_of_ble_eq_true rfl) dX6_count_109 ⟨Nat.le_of_ble_eq_true rfl, Nat.le_of_ble_eq_true rfl⟩ rfl rfl rfl) ?_
                refine xri (r := f2_fieldsOf M N (f2_counting M)) (rVN (As := [.int (f2_counting M)]) (n := 1) (rest := []) ⟨hx, hb, hml, hown, hW⟩ (kX2_fieldsOf l D C am M (f2_counting M) N hN hN12) (wa tw320 rfl) (hNw _ tw317 rfl) (wa tw319 rfl) (was ts7 rfl) (wa tw2 rfl) (by decide +kernel) ⟨Nat.le_of_ble_eq_true rfl, Nat.le_of_ble_eq_true rfl⟩ (pVr (hP.sub [1, 2, 3, 4, 5, 6, 7, 8] rfl) hK hNw 0 rfl rfl) hl.1 rfl (Nat.le_of_ble_eq_true rfl) dX6_count_112 ⟨Nat.le_of_ble_eq_true rfl, Nat.le_of_ble_eq_true rfl⟩ rfl rfl rfl) ?_
                exact W.iret (v := f2_fieldsOf M N (f2_counting M)) hx hb hr (fun t ht _ => ⟨_, rfl, (by simp only [f6_count, if_neg c_1, if_neg c_2, if_neg c_3, if_neg c_4, if_neg c_5, if_neg c_6, if_pos c_7]), ht⟩) (fun q h => by cases h) dX6_count_115
              · skip
                have hsw := q_sw (x := what) 7 (fun k hk => match k, hk with | 0, _ => c_1 | 1, _ => c_2 | 2, _ => c_3 | 3, _ => c_4 | 4, _ => c_5 | 5, _ => c_6 | 6, _ => c_7 | k + 7, h => absurd h (by omega))
                refine lv_tableOut (tgt := 116) hx hb dX6_count_1 (by omega) (by decide) ?_
                refine lv_ldc hx hb hown (hW _ (wa tw260 rfl)) dX6_count_116 ?_
                exact W.iret (v := (-100002)) hx hb hr (fun t ht _ => ⟨_, rfl, (by simp only [f6_count, if_neg c_1, if_neg c_2, if_neg c_3, if_neg c_4, if_neg c_5, if_neg c_6, if_neg c_7]), ht⟩) (fun q h => by cases h) dX6_count_118

def f6_det (M : Nat → Nat → Int32) (F : Nat → Nat → Int64) (fm : Int32) (N : Nat) (model : Int32) : Int64 := (if (f6_outside model 0 2) = 0 then ((f1_make M N model (f2_counting M) F) 0 12) else ((-100002)))
def f6_det_F (M : Nat → Nat → Int32) (F : Nat → Nat → Int64) (fm : Int32) (N : Nat) (model : Int32) : Nat → Nat → Int64 := (if (f6_outside model 0 2) = 0 then (f1_make M N model (f2_counting M) F) else (F))
def f6_det_fm (M : Nat → Nat → Int32) (F : Nat → Nat → Int64) (fm : Int32) (N : Nat) (model : Int32) : Int32 := (if (f6_outside model 0 2) = 0 then (model) else (fm))
set_option maxHeartbeats 4000000 in
set_option maxRecDepth 100000 in
theorem kX6_det (l : Launch) (D : va_G) (C : Nat → ClassId) (ax am af ap ab ar : Nat → Nat) (F : Nat → Nat → Int64) (fm : Int32) (M : Nat → Nat → Int32) (model : Int32) (sz : Nat) (N : Nat) (hN : M 6 0 = nI N) (hN12 : N ≤ 12) : Wl l D C yX6_det cX6_det 2 3 [.ref (ax 0), .int model] ((wX ax am af ap ab ar) ++ (wF af C F fm) ++ (wM am C M)) (((wX ax am af ap ab ar) ++ (wF af C (f6_det_F M F fm N model) (f6_det_fm M F fm N model)) ++ (wM am C M))) (f6_det M F fm N model) sz := by
  refine Met.ofW (cc := cX6_det) (maxL := 2) (ret := (some .long)) (by decide) rfl ?_
  intro p e s m args below meth c s₁ B hml hv
  obtain ⟨rfl, hsz, hP, hK, hNw, hD0⟩ := hv
  have hx := B.exec
  have hb := B.bytes
  have hr := B.returns
  have hts := atoms_spec (ws := wm yX6_det cX6_det 2 (some .long)) B.pre
  have hown : s.vm.findClass RX6 = some m.cls := findClass_of_methodNamed B.named
  have hlocks := B.notSynchronized
  have hW : ∀ w ∈ WA, w.before _ s = true := fun w h => hts w (List.mem_cons_of_mem _ h)
  subst hsz
  have hD := hD0.self (sz := s.heap.size)
  generalize hAe : va_A ((wX ax am af ap ab ar) ++ (wF af C F fm) ++ (wM am C M)) s.heap.size = A at hD ⊢
  have hA : ∀ q : Nat, s.heap.size ≤ q → A q := fun q h => by rw [← hAe]; exact Or.inr h
  have hS : va_S A s.heap s.heap [] := va_S.rf
  have hP : va_P D vwCl [((ax 0), .inr (6, [.ref (am 0), .ref (af 0), .ref (ap 0), .ref (ab 0), .ref (ar 0)])), ((af 0), .inr (1, [.ref (af 1), .ref (af 2), .ref (af 5), .int fm])), ((af 1), .inr (5, [.long (F 0 0), .long (F 0 1), .long (F 0 2), .long (F 0 3), .long (F 0 4), .long (F 0 5), .long (F 0 6), .long (F 0 7), .long (F 0 8), .long (F 0 9), .long (F 0 10), .long (F 0 11), .long (F 0 12)])), ((af 2), eJJ C 2 (rr af 3 2)), ((af 3), eJ C 4 (F 1)), ((af 4), eJ C 4 (F 2)), ((af 5), eJJ C 2 (rr af 6 2)), ((af 6), eJ C 3 (F 3)), ((af 7), eJ C 3 (F 4)), ((am 0), .inr (2, [.ref (am 1), .ref (am 2), .ref (am 3), .ref (am 4), .ref (am 5), .int (M 6 0), .int (M 6 1), .int (M 6 2)])), ((am 1), eI C 12 (M 0)), ((am 2), eI C 12 (M 1)), ((am 3), eI C 12 (M 2)), ((am 4), eI C 12 (M 3)), ((am 5), eII C 2 (rr am 6 2)), ((am 6), eI C 12 (M 4)), ((am 7), eI C 12 (M 5))] s.heap := hP
  have hD : va_D A [((ax 0), .inr (6, [.ref (am 0), .ref (af 0), .ref (ap 0), .ref (ab 0), .ref (ar 0)])), ((af 0), .inr (1, [.ref (af 1), .ref (af 2), .ref (af 5), .int fm])), ((af 1), .inr (5, [.long (F 0 0), .long (F 0 1), .long (F 0 2), .long (F 0 3), .long (F 0 4), .long (F 0 5), .long (F 0 6), .long (F 0 7), .long (F 0 8), .long (F 0 9), .long (F 0 10), .long (F 0 11), .long (F 0 12)])), ((af 2), eJJ C 2 (rr af 3 2)), ((af 3), eJ C 4 (F 1)), ((af 4), eJ C 4 (F 2)), ((af 5), eJJ C 2 (rr af 6 2)), ((af 6), eJ C 3 (F 3)), ((af 7), eJ C 3 (F 4)), ((am 0), .inr (2, [.ref (am 1), .ref (am 2), .ref (am 3), .ref (am 4), .ref (am 5), .int (M 6 0), .int (M 6 1), .int (M 6 2)])), ((am 1), eI C 12 (M 0)), ((am 2), eI C 12 (M 1)), ((am 3), eI C 12 (M 2)), ((am 4), eI C 12 (M 3)), ((am 5), eII C 2 (rr am 6 2)), ((am 6), eI C 12 (M 4)), ((am 7), eI C 12 (M 5))] := hD
  have hl := lv_entry ([.ref (ax 0), .int model]) (n := 2) (Nat.le_of_ble_eq_true rfl)
  rw [lg_entry_eq]
  generalize (lg_sl ([.ref (ax 0), .int model]) ++ List.replicate (2 - (lg_sl ([.ref (ax 0), .int model])).length) Slot.unset).toArray = ls at hl ⊢
  have hl : lv_has ls 2 [(0, .ref (ax 0)), (1, .int model)] := hl
  refine lv_iload_n hx hb dX6_det_0 rfl (lv_at hl 1 rfl) ?_
  refine lv_iconst (v := 0) hx hb dX6_det_1 (by decide) ?_
  refine lv_iconst (v := 2) hx hb dX6_det_2 (by decide) ?_
  refine xri (r := f6_outside model 0 2) (rS (As := [.int model, .int 0, .int 2]) (n := 3) (rest := []) ⟨hx, hb, hml, hown, hW⟩ (kX6_outside l model 0 2) (wa tw259 rfl) (wa tw257 rfl) (wa tw258 rfl) (wa tw1 rfl) (by decide +kernel) ⟨Nat.le_of_ble_eq_true rfl, Nat.le_of_ble_eq_true rfl⟩ pS0 hl.1 rfl (Nat.le_of_ble_eq_true rfl) dX6_det_3 ⟨Nat.le_of_ble_eq_true rfl, Nat.le_of_ble_eq_true rfl⟩ rfl rfl rfl) ?_
  refine lv_if_eq (tgt := 13) hx hb dX6_det_6 (by decide) (fun c_1 => ?_) (fun c_1 => ?_)
  · refine lv_aload_n hx hb dX6_det_13 rfl (lv_at hl 0 rfl) ?_
    refine va_get (D := D) (ci := 6) (C := RX6) (T := TX6) (N := 5) hx hb hW inX6 hown hK hP 0 rfl rfl 1 (by decide) (hW _ (wa tw238 rfl)) (fun _ h9 => h9) rfl dX6_det_14 ?_
    refine lv_aload_n hx hb dX6_det_17 rfl (lv_at hl 0 rfl) ?_
    refine va_get (D := D) (ci := 6) (C := RX6) (T := TX6) (N := 5) hx hb hW inX6 hown hK hP 0 rfl rfl 0 (by decide) (hW _ (wa tw237 rfl)) (fun _ h9 => h9) rfl dX6_det_18 ?_
    refine lv_iload_n hx hb dX6_det_21 rfl (lv_at hl 1 rfl) ?_
    refine lv_aload_n hx hb dX6_det_22 rfl (lv_at hl 0 rfl) ?_
    refine va_get (D := D) (ci := 6) (C := RX6) (T := TX6) (N := 5) hx hb hW inX6 hown hK hP 0 rfl rfl 0 (by decide) (hW _ (wa tw237 rfl)) (fun _ h9 => h9) rfl dX6_det_23 ?_
    refine xri (r := f2_counting M) (rVN (As := []) (n := 0) (rest := [.int model, .ref (am 0), .ref (af 0)]) ⟨hx, hb, hml, hown, hW⟩ (kX2_counting l D C am M  ) (wa tw308 rfl) (hNw _ tw305 rfl) (wa tw307 rfl) (was ts4 rfl) (wa tw2 rfl) (by decide +kernel) ⟨Nat.le_of_ble_eq_true rfl, Nat.le_of_ble_eq_true rfl⟩ (pVr (hP.sub [9, 10, 11, 12, 13, 14, 15, 16] rfl) hK hNw 0 rfl rfl) hl.1 rfl (Nat.le_of_ble_eq_true rfl) dX6_det_26 ⟨Nat.le_of_ble_eq_true rfl, Nat.le_of_ble_eq_true rfl⟩ rfl rfl rfl) ?_
    refine xwi (wr := [((ax 0), .inr (6, [.ref (am 0), .ref (af 0), .ref (ap 0), .ref (ab 0), .ref (ar 0)]))]) (rVN (As := [.ref (am 0), .int model, .int (f2_counting M)]) (n := 3) (rest := []) ⟨hx, hb, hml, hown, hW⟩ (kX1_make l D C af F fm am M model (f2_counting M) s.heap.size N hN hN12) (wa tw334 rfl) (hNw _ tw331 rfl) (wa tw333 rfl) (was ts9 rfl) (wa tw3 rfl) (by decide +kernel) ⟨Nat.le_of_ble_eq_true rfl, Nat.le_of_ble_eq_true rfl⟩ (pVw (hP.sub [1, 2, 3, 4, 5, 6, 7, 8, 9, 10, 11, 12, 13, 14, 15, 16] rfl) (hD.sub [1, 2, 3, 4, 5, 6, 7, 8, 9, 10, 11, 12, 13, 14, 15, 16] (by decide) rfl) hK hNw 0 rfl rfl) hl.1 rfl (Nat.le_of_ble_eq_true rfl) dX6_det_29 ⟨Nat.le_of_ble_eq_true rfl, Nat.le_of_ble_eq_true rfl⟩ rfl rfl rfl) hP hD hS hA [1, 2, 3, 4, 5, 6, 7, 8, 9, 10, 11, 12, 13, 14, 15, 16] [0] rfl rfl (by decide) (by decide) (fun H locs hP hD hS => ?_)
    have hP : va_P D vwCl [((ax 0), .inr (6, [.ref (am 0), .ref (af 0), .ref (ap 0), .ref (ab 0), .ref (ar 0)])), ((af 0), .inr (1, [.ref (af 1), .ref (af 2), .ref (af 5), .int model])), ((af 1), .inr (5, [.long ((f1_make M N model (f2_counting M) F) 0 0), .long ((f1_make M N model (f2_counting M) F) 0 1), .long ((f1_make M N model (f2_counting M) F) 0 2), .long ((f1_make M N model (f2_counting M) F) 0 3), .long ((f1_make M N model (f2_counting M) F) 0 4), .long ((f1_make M N model (f2_counting M) F) 0 5), .long ((f1_make M N model (f2_counting M) F) 0 6), .long ((f1_make M N model (f2_counting M) F) 0 7), .long ((f1_make M N model (f2_counting M) F) 0 8), .long ((f1_make M N model (f2_counting M) F) 0 9), .long ((f1_make M N model (f2_counting M) F) 0 10), .long ((f1_make M N model (f2_counting M) F) 0 11), .long ((f1_make M N model (f2_counting M) F) 0 12)])), ((af 2), eJJ C 2 (rr af 3 2)), ((af 3), eJ C 4 ((f1_make M N model (f2_counting M) F) 1)), ((af 4), eJ C 4 ((f1_make M N model (f2_counting M) F) 2)), ((af 5), eJJ C 2 (rr af 6 2)), ((af 6), eJ C 3 ((f1_make M N model (f2_counting M) F) 3)), ((af 7), eJ C 3 ((f1_make M N model (f2_counting M) F) 4)), ((am 0), .inr (2, [.ref (am 1), .ref (am 2), .ref (am 3), .ref (am 4), .ref (am 5), .int (M 6 0), .int (M 6 1), .int (M 6 2)])), ((am 1), eI C 12 (M 0)), ((am 2), eI C 12 (M 1)), ((am 3), eI C 12 (M 2)), ((am 4), eI C 12 (M 3)), ((am 5), eII C 2 (rr am 6 2)), ((am 6), eI C 12 (M 4)), ((am 7), eI C 12 (M 5))] H := hP
    have hD : va_D A [((ax 0), .inr (6, [.ref (am 0), .ref (af 0), .ref (ap 0), .ref (ab 0), .ref (ar 0)])), ((af 0), .inr (1, [.ref (af 1), .ref (af 2), .ref (af 5), .int model])), ((af 1), .inr (5, [.long ((f1_make M N model (f2_counting M) F) 0 0), .long ((f1_make M N model (f2_counting M) F) 0 1), .long ((f1_make M N model (f2_counting M) F) 0 2), .long ((f1_make M N model (f2_counting M) F) 0 3), .long ((f1_make M N model (f2_counting M) F) 0 4), .long ((f1_make M N model (f2_counting M) F) 0 5), .long ((f1_make M N model (f2_counting M) F) 0 6), .long ((f1_make M N model (f2_counting M) F) 0 7), .long ((f1_make M N model (f2_counting M) F) 0 8), .long ((f1_make M N model (f2_counting M) F) 0 9), .long ((f1_make M N model (f2_counting M) F) 0 10), .long ((f1_make M N model (f2_counting M) F) 0 11), .long ((f1_make M N model (f2_counting M) F) 0 12)])), ((af 2), eJJ C 2 (rr af 3 2)), ((af 3), eJ C 4 ((f1_make M N model (f2_counting M) F) 1)), ((af 4), eJ C 4 ((f1_make M N model (f2_counting M) F) 2)), ((af 5), eJJ C 2 (rr af 6 2)), ((af 6), eJ C 3 ((f1_make M N model (f2_counting M) F) 3)), ((af 7), eJ C 3 ((f1_make M N model (f2_counting M) F) 4)), ((am 0), .inr (2, [.ref (am 1), .ref (am 2), .ref (am 3), .ref (am 4), .ref (am 5), .int (M 6 0), .int (M 6 1), .int (M 6 2)])), ((am 1), eI C 12 (M 0)), ((am 2), eI C 12 (M 1)), ((am 3), eI C 12 (M 2)), ((am 4), eI C 12 (M 3)), ((am 5), eII C 2 (rr am 6 2)), ((am 6), eI C 12 (M 4)), ((am 7), eI C 12 (M 5))] := hD
    refine lv_pop hx hb dX6_det_32 rfl ?_
    refine lv_aload_n hx hb dX6_det_33 rfl (lv_at hl 0 rfl) ?_
    refine va_get (D := D) (ci := 6) (C := RX6) (T := TX6) (N := 5) hx hb hW inX6 hown hK hP 0 rfl rfl 1 (by decide) (hW _ (wa tw238 rfl)) (fun _ h9 => h9) rfl dX6_det_34 ?_
    refine va_getN (D := D) (host := "FieldAfterField") (ci := 1) (C := RX1) (T := TX1) (N := 4) hx hb hW inX1 hown hK hP 1 rfl rfl 0 (by decide) (va_Nw.use rfl (hNw _ tw129 rfl)) (fun _ h9 => h9) rfl dX6_det_37 ?_
    refine va_getN (D := D) (host := "FieldAfterField") (ci := 5) (C := RX5) (T := TX5) (N := 13) hx hb hW inX5 hown hK hP 2 rfl rfl 12 (by decide) (va_Nw.use rfl (hNw _ tw98 rfl)) (fun _ h9 => h9) rfl dX6_det_40 ?_
    have hb_0 : (f6_det_F M F fm N model) = f1_make M N model (f2_counting M) F := (by simp only [f6_det, f6_det_F, f6_det_fm, if_pos c_1])
    have hb_1 : (f6_det_fm M F fm N model) = model := (by simp only [f6_det, f6_det_F, f6_det_fm, if_pos c_1])
    have hP9 : va_P D vwCl (((wX ax am af ap ab ar) ++ (wF af C (f6_det_F M F fm N model) (f6_det_fm M F fm N model)) ++ (wM am C M))) H := by rw [hb_0, hb_1]; exact hP
    have hD9 : va_D A (((wX ax am af ap ab ar) ++ (wF af C (f6_det_F M F fm N model) (f6_det_fm M F fm N model)) ++ (wM am C M))) := by rw [hb_0, hb_1]; exact hD
    exact W.lret (v := (f1_make M N model (f2_counting M) F) 0 12) hx hb hr (fun t ht _ => ⟨⟨_, (), rfl, (by simp only [f6_det, f6_det_F, f6_det_fm, if_pos c_1]), ⟨by rw [ht]; exact hP9, by rw [hAe]; exact hD9⟩⟩, hS.F ht⟩) hS.2.2 dX6_det_43
  · refine lv_ldc2 hx hb hown (hW _ (wa tw330 rfl)) dX6_det_9 ?_
    have hb_0 : (f6_det_F M F fm N model) = F := (by simp only [f6_det, f6_det_F, f6_det_fm, if_neg c_1])
    have hb_1 : (f6_det_fm M F fm N model) = fm := (by simp only [f6_det, f6_det_F, f6_det_fm, if_neg c_1])
    have hP9 : va_P D vwCl (((wX ax am af ap ab ar) ++ (wF af C (f6_det_F M F fm N model) (f6_det_fm M F fm N model)) ++ (wM am C M))) s.heap := by rw [hb_0, hb_1]; exact hP
    have hD9 : va_D A (((wX ax am af ap ab ar) ++ (wF af C (f6_det_F M F fm N model) (f6_det_fm M F fm N model)) ++ (wM am C M))) := by rw [hb_0, hb_1]; exact hD
    exact W.lret (v := (-100002)) hx hb hr (fun t ht _ => ⟨⟨_, (), rfl, (by simp only [f6_det, f6_det_F, f6_det_fm, if_neg c_1]), ⟨by rw [ht]; exact hP9, by rw [hAe]; exact hD9⟩⟩, hS.F ht⟩) hS.2.2 dX6_det_12

def f6_fit (M : Nat → Nat → Int32) (F : Nat → Nat → Int64) (fm : Int32) (N : Nat) (model way t what : Int32) : Int64 := (if (f6_outsideFit model way what) = 0 then (if (f6_outside t 0 (f6_lastTerm model)) = 0 then (if (f1_ok (f1_make M N model (f2_counting M) F)) = 0 then ((-100003)) else (if way = 0 then (f6_partOf (((f1_make M N model (f2_counting M) F) 3) (ix t)) ((f1_make M N model (f2_counting M) F) 0 12) what) else (f6_partOf (((f1_make M N model (f2_counting M) F) 4) (ix t)) ((f1_make M N model (f2_counting M) F) 0 12) what))) else ((-100002))) else ((-100002)))
def f6_fit_F (M : Nat → Nat → Int32) (F : Nat → Nat → Int64) (fm : Int32) (N : Nat) (model way t what : Int32) : Nat → Nat → Int64 := (if (f6_outsideFit model way what) = 0 then (if (f6_outside t 0 (f6_lastTerm model)) = 0 then (f1_make M N model (f2_counting M) F) else (F)) else (F))
def f6_fit_fm (M : Nat → Nat → Int32) (F : Nat → Nat → Int64) (fm : Int32) (N : Nat) (model way t what : Int32) : Int32 := (if (f6_outsideFit model way what) = 0 then (if (f6_outside t 0 (f6_lastTerm model)) = 0 then (model) else (fm)) else (fm))
set_option maxHeartbeats 4000000 in
set_option maxRecDepth 100000 in
theorem kX6_fit (l : Launch) (D : va_G) (C : Nat → ClassId) (ax am af ap ab ar : Nat → Nat) (F : Nat → Nat → Int64) (fm : Int32) (M : Nat → Nat → Int32) (model way t what : Int32) (sz : Nat) (N : Nat) (hN : M 6 0 = nI N) (hN12 : N ≤ 12) : Wl l D C yX6_fit cX6_fit 5 3 [.ref (ax 0), .int model, .int way, .int t, .int what] ((wX ax am af ap ab ar) ++ (wF af C F fm) ++ (wM am C M)) (((wX ax am af ap ab ar) ++ (wF af C (f6_fit_F M F fm N model way t what) (f6_fit_fm M F fm N model way t what)) ++ (wM am C M))) (f6_fit M F fm N model way t what) sz := by
  refine Met.ofW (cc := cX6_fit) (maxL := 5) (ret := (some .long)) (by decide) rfl ?_
  intro p e s m args below meth c s₁ B hml hv
  obtain ⟨rfl, hsz, hP, hK, hNw, hD0⟩ := hv
  have hx := B.exec
  have hb := B.bytes
  have hr := B.returns
  have hts := atoms_spec (ws := wm yX6_fit cX6_fit 5 (some .long)) B.pre
  have hown : s.vm.findClass RX6 = some m.cls := findClass_of_methodNamed B.named
  have hlocks := B.notSynchronized
  have hW : ∀ w ∈ WA, w.before _ s = true := fun w h => hts w (List.mem_cons_of_mem _ h)
  subst hsz
  have hD := hD0.self (sz := s.heap.size)
  generalize hAe : va_A ((wX ax am af ap ab ar) ++ (wF af C F fm) ++ (wM am C M)) s.heap.size = A at hD ⊢
  have hA : ∀ q : Nat, s.heap.size ≤ q → A q := fun q h => by rw [← hAe]; exact Or.inr h
  have hS : va_S A s.heap s.heap [] := va_S.rf
  have hP : va_P D vwCl [((ax 0), .inr (6, [.ref (am 0), .ref (af 0), .ref (ap 0), .ref (ab 0), .ref (ar 0)])), ((af 0), .inr (1, [.ref (af 1), .ref (af 2), .ref (af 5), .int fm])), ((af 1), .inr (5, [.long (F 0 0), .long (F 0 1), .long (F 0 2), .long (F 0 3), .long (F 0 4), .long (F 0 5), .long (F 0 6), .long (F 0 7), .long (F 0 8), .long (F 0 9), .long (F 0 10), .long (F 0 11), .long (F 0 12)])), ((af 2), eJJ C 2 (rr af 3 2)), ((af 3), eJ C 4 (F 1)), ((af 4), eJ C 4 (F 2)), ((af 5), eJJ C 2 (rr af 6 2)), ((af 6), eJ C 3 (F 3)), ((af 7), eJ C 3 (F 4)), ((am 0), .inr (2, [.ref (am 1), .ref (am 2), .ref (am 3), .ref (am 4), .ref (am 5), .int (M 6 0), .int (M 6 1), .int (M 6 2)])), ((am 1), eI C 12 (M 0)), ((am 2), eI C 12 (M 1)), ((am 3), eI C 12 (M 2)), ((am 4), eI C 12 (M 3)), ((am 5), eII C 2 (rr am 6 2)), ((am 6), eI C 12 (M 4)), ((am 7), eI C 12 (M 5))] s.heap := hP
  have hD : va_D A [((ax 0), .inr (6, [.ref (am 0), .ref (af 0), .ref (ap 0), .ref (ab 0), .ref (ar 0)])), ((af 0), .inr (1, [.ref (af 1), .ref (af 2), .ref (af 5), .int fm])), ((af 1), .inr (5, [.long (F 0 0), .long (F 0 1), .long (F 0 2), .long (F 0 3), .long (F 0 4), .long (F 0 5), .long (F 0 6), .long (F 0 7), .long (F 0 8), .long (F 0 9), .long (F 0 10), .long (F 0 11), .long (F 0 12)])), ((af 2), eJJ C 2 (rr af 3 2)), ((af 3), eJ C 4 (F 1)), ((af 4), eJ C 4 (F 2)), ((af 5), eJJ C 2 (rr af 6 2)), ((af 6), eJ C 3 (F 3)), ((af 7), eJ C 3 (F 4)), ((am 0), .inr (2, [.ref (am 1), .ref (am 2), .ref (am 3), .ref (am 4), .ref (am 5), .int (M 6 0), .int (M 6 1), .int (M 6 2)])), ((am 1), eI C 12 (M 0)), ((am 2), eI C 12 (M 1)), ((am 3), eI C 12 (M 2)), ((am 4), eI C 12 (M 3)), ((am 5), eII C 2 (rr am 6 2)), ((am 6), eI C 12 (M 4)), ((am 7), eI C 12 (M 5))] := hD
  have hl := lv_entry ([.ref (ax 0), .int model, .int way, .int t, .int what]) (n := 5) (Nat.le_of_ble_eq_true rfl)
  rw [lg_entry_eq]
  generalize (lg_sl ([.ref (ax 0), .int model, .int way, .int t, .int what]) ++ List.replicate (5 - (lg_sl ([.ref (ax 0), .int model, .int way, .int t, .int what])).length) Slot.unset).toArray = ls at hl ⊢
  have hl : lv_has ls 5 [(0, .ref (ax 0)), (1, .int model), (2, .int way), (3, .int t), (4, .int what)] := hl
  refine lv_iload_n hx hb dX6_fit_0 rfl (lv_at hl 1 rfl) ?_
  refine lv_iload_n hx hb dX6_fit_1 rfl (lv_at hl 2 rfl) ?_
  refine lv_iload hx hb dX6_fit_2 (lv_at hl 4 rfl) ?_
  refine xri (r := f6_outsideFit model way what) (rS (As := [.int model, .int way, .int what]) (n := 3) (rest := []) ⟨hx, hb, hml, hown, hW⟩ (kX6_outsideFit l model way what) (wa tw370 rfl) (wa tw368 rfl) (wa tw369 rfl) (wa tw1 rfl) (by decide +kernel) ⟨Nat.le_of_ble_eq_true rfl, Nat.le_of_ble_eq_true rfl⟩ pS0 hl.1 rfl (Nat.le_of_ble_eq_true rfl) dX6_fit_4 ⟨Nat.le_of_ble_eq_true rfl, Nat.le_of_ble_eq_true rfl⟩ rfl rfl rfl) ?_
  refine lv_if_ne (tgt := 22) hx hb dX6_fit_7 (by decide) (fun c_1 => ?_) (fun c_1 => ?_)
  · refine lv_ldc2 hx hb hown (hW _ (wa tw330 rfl)) dX6_fit_22 ?_
    have hb_0 : (f6_fit_F M F fm N model way t what) = F := (by simp only [f6_fit, f6_fit_F, f6_fit_fm, if_neg c_1])
    have hb_1 : (f6_fit_fm M F fm N model way t what) = fm := (by simp only [f6_fit, f6_fit_F, f6_fit_fm, if_neg c_1])
    have hP9 : va_P D vwCl (((wX ax am af ap ab ar) ++ (wF af C (f6_fit_F M F fm N model way t what) (f6_fit_fm M F fm N model way t what)) ++ (wM am C M))) s.heap := by rw [hb_0, hb_1]; exact hP
    have hD9 : va_D A (((wX ax am af ap ab ar) ++ (wF af C (f6_fit_F M F fm N model way t what) (f6_fit_fm M F fm N model way t what)) ++ (wM am C M))) := by rw [hb_0, hb_1]; exact hD
    exact W.lret (v := (-100002)) hx hb hr (fun t ht _ => ⟨⟨_, (), rfl, (by simp only [f6_fit, f6_fit_F, f6_fit_fm, if_neg c_1]), ⟨by rw [ht]; exact hP9, by rw [hAe]; exact hD9⟩⟩, hS.F ht⟩) hS.2.2 dX6_fit_25
  · refine lv_iload_n hx hb dX6_fit_10 rfl (lv_at hl 3 rfl) ?_
    refine lv_iconst (v := 0) hx hb dX6_fit_11 (by decide) ?_
    refine lv_iload_n hx hb dX6_fit_12 rfl (lv_at hl 1 rfl) ?_
    refine xri (r := f6_lastTerm model) (rS (As := [.int model]) (n := 1) (rest := [.int 0, .int t]) ⟨hx, hb, hml, hown, hW⟩ (kX6_lastTerm l model) (wa tw373 rfl) (wa tw371 rfl) (wa tw372 rfl) (wa tw1 rfl) (by decide +kernel) ⟨Nat.le_of_ble_eq_true rfl, Nat.le_of_ble_eq_true rfl⟩ pS0 hl.1 rfl (Nat.le_of_ble_eq_true rfl) dX6_fit_13 ⟨Nat.le_of_ble_eq_true rfl, Nat.le_of_ble_eq_true rfl⟩ rfl rfl rfl) ?_
    refine xri (r := f6_outside t 0 (f6_lastTerm model)) (rS (As := [.int t, .int 0, .int (f6_lastTerm model)]) (n := 3) (rest := []) ⟨hx, hb, hml, hown, hW⟩ (kX6_outside l t 0 (f6_lastTerm model)) (wa tw259 rfl) (wa tw257 rfl) (wa tw258 rfl) (wa tw1 rfl) (by decide +kernel) ⟨Nat.le_of_ble_eq_true rfl, Nat.le_of_ble_eq_true rfl⟩ pS0 hl.1 rfl (Nat.le_of_ble_eq_true rfl) dX6_fit_16 ⟨Nat.le_of_ble_eq_true rfl, Nat.le_of_ble_eq_true rfl⟩ rfl rfl rfl) ?_
    refine lv_if_eq (tgt := 26) hx hb dX6_fit_19 (by decide) (fun c_2 => ?_) (fun c_2 => ?_)
    · obtain ⟨k, hk, rfl⟩ := q_lastT c_2
      have hix_k : ix (nI k) = k := ix_nI (by omega)
      refine lv_aload_n hx hb dX6_fit_26 rfl (lv_at hl 0 rfl) ?_
      refine va_get (D := D) (ci := 6) (C := RX6) (T := TX6) (N := 5) hx hb hW inX6 hown hK hP 0 rfl rfl 1 (by decide) (hW _ (wa tw238 rfl)) (fun _ h9 => h9) rfl dX6_fit_27 ?_
      refine lv_aload_n hx hb dX6_fit_30 rfl (lv_at hl 0 rfl) ?_
      refine va_get (D := D) (ci := 6) (C := RX6) (T := TX6) (N := 5) hx hb hW inX6 hown hK hP 0 rfl rfl 0 (by decide) (hW _ (wa tw237 rfl)) (fun _ h9 => h9) rfl dX6_fit_31 ?_
      refine lv_iload_n hx hb dX6_fit_34 rfl (lv_at hl 1 rfl) ?_
      refine lv_aload_n hx hb dX6_fit_35 rfl (lv_at hl 0 rfl) ?_
      refine va_get (D := D) (ci := 6) (C := RX6) (T := TX6) (N := 5) hx hb hW inX6 hown hK hP 0 rfl rfl 0 (by decide) (hW _ (wa tw237 rfl)) (fun _ h9 => h9) rfl dX6_fit_36 ?_
      refine xri (r := f2_counting M) (rVN (As := []) (n := 0) (rest := [.int model, .ref (am 0), .ref (af 0)]) ⟨hx, hb, hml, hown, hW⟩ (kX2_counting l D C am M  ) (wa tw308 rfl) (hNw _ tw305 rfl) (wa tw307 rfl) (was ts4 rfl) (wa tw2 rfl) (by decide +kernel) ⟨Nat.le_of_ble_eq_true rfl, Nat.le_of_ble_eq_true rfl⟩ (pVr (hP.sub [9, 10, 11, 12, 13, 14, 15, 16] rfl) hK hNw 0 rfl rfl) hl.1 rfl (Nat.le_of_ble_eq_true rfl) dX6_fit_39 ⟨Nat.le_of_ble_eq_true rfl, Nat.le_of_ble_eq_true rfl⟩ rfl rfl rfl) ?_
      refine xwi (wr := [((ax 0), .inr (6, [.ref (am 0), .ref (af 0), .ref (ap 0), .ref (ab 0), .ref (ar 0)]))]) (rVN (As := [.ref (am 0), .int model, .int (f2_counting M)]) (n := 3) (rest := []) ⟨hx, hb, hml, hown, hW⟩ (kX1_make l D C af F fm am M model (f2_counting M) s.heap.size N hN hN12) (wa tw334 rfl) (hNw _ tw331 rfl) (wa tw333 rfl) (was ts9 rfl) (wa tw3 rfl) (by decide +kernel) ⟨Nat.le_of_ble_eq_true rfl, Nat.le_of_ble_eq_true rfl⟩ (pVw (hP.sub [1, 2, 3, 4, 5, 6, 7, 8, 9, 10, 11, 12, 13, 14, 15, 16] rfl) (hD.sub [1, 2, 3, 4, 5, 6, 7, 8, 9, 10, 11, 12, 13, 14, 15, 16] (by decide) rfl) hK hNw 0 rfl rfl) hl.1 rfl (Nat.le_of_ble_eq_true rfl) dX6_fit_42 ⟨Nat.le_of_ble_eq_true rfl, Nat.le_of_ble_eq_true rfl⟩ rfl rfl rfl) hP hD hS hA [1, 2, 3, 4, 5, 6, 7, 8, 9, 10, 11, 12, 13, 14, 15, 16] [0] rfl rfl (by decide) (by decide) (fun H locs hP hD hS => ?_)
      have hP : va_P D vwCl [((ax 0), .inr (6, [.ref (am 0), .ref (af 0), .ref (ap 0), .ref (ab 0), .ref (ar 0)])), ((af 0), .inr (1, [.ref (af 1), .ref (af 2), .ref (af 5), .int model])), ((af 1), .inr (5, [.long ((f1_make M N model (f2_counting M) F) 0 0), .long ((f1_make M N model (f2_counting M) F) 0 1), .long ((f1_make M N model (f2_counting M) F) 0 2), .long ((f1_make M N model (f2_counting M) F) 0 3), .long ((f1_make M N model (f2_counting M) F) 0 4), .long ((f1_make M N model (f2_counting M) F) 0 5), .long ((f1_make M N model (f2_counting M) F) 0 6), .long ((f1_make M N model (f2_counting M) F) 0 7), .long ((f1_make M N model (f2_counting M) F) 0 8), .long ((f1_make M N model (f2_counting M) F) 0 9), .long ((f1_make M N model (f2_counting M) F) 0 10), .long ((f1_make M N model (f2_counting M) F) 0 11), .long ((f1_make M N model (f2_counting M) F) 0 12)])), ((af 2), eJJ C 2 (rr af 3 2)), ((af 3), eJ C 4 ((f1_make M N model (f2_counting M) F) 1)), ((af 4), eJ C 4 ((f1_make M N model (f2_counting M) F) 2)), ((af 5), eJJ C 2 (rr af 6 2)), ((af 6), eJ C 3 ((f1_make M N model (f2_counting M) F) 3)), ((af 7), eJ C 3 ((f1_make M N model (f2_counting M) F) 4)), ((am 0), .inr (2, [.ref (am 1), .ref (am 2), .ref (am 3), .ref (am 4), .ref (am 5), .int (M 6 0), .int (M 6 1), .int (M 6 2)])), ((am 1), eI C 12 (M 0)), ((am 2), eI C 12 (M 1)), ((am 3), eI C 12 (M 2)), ((am 4), eI C 12 (M 3)), ((am 5), eII C 2 (rr am 6 2)), ((am 6), eI C 12 (M 4)), ((am 7), eI C 12 (M 5))] H := hP
      have hD : va_D A [((ax 0), .inr (6, [.ref (am 0), .ref (af 0), .ref (ap 0), .ref (ab 0), .ref (ar 0)])), ((af 0), .inr (1, [.ref (af 1), .ref (af 2), .ref (af 5), .int model])), ((af 1), .inr (5, [.long ((f1_make M N model (f2_counting M) F) 0 0), .long ((f1_make M N model (f2_counting M) F) 0 1), .long ((f1_make M N model (f2_counting M) F) 0 2), .long ((f1_make M N model (f2_counting M) F) 0 3), .long ((f1_make M N model (f2_counting M) F) 0 4), .long ((f1_make M N model (f2_counting M) F) 0 5), .long ((f1_make M N model (f2_counting M) F) 0 6), .long ((f1_make M N model (f2_counting M) F) 0 7), .long ((f1_make M N model (f2_counting M) F) 0 8), .long ((f1_make M N model (f2_counting M) F) 0 9), .long ((f1_make M N model (f2_counting M) F) 0 10), .long ((f1_make M N model (f2_counting M) F) 0 11), .long ((f1_make M N model (f2_counting M) F) 0 12)])), ((af 2), eJJ C 2 (rr af 3 2)), ((af 3), eJ C 4 ((f1_make M N model (f2_counting M) F) 1)), ((af 4), eJ C 4 ((f1_make M N model (f2_counting M) F) 2)), ((af 5), eJJ C 2 (rr af 6 2)), ((af 6), eJ C 3 ((f1_make M N model (f2_counting M) F) 3)), ((af 7), eJ C 3 ((f1_make M N model (f2_counting M) F) 4)), ((am 0), .inr (2, [.ref (am 1), .ref (am 2), .ref (am 3), .ref (am 4), .ref (am 5), .int (M 6 0), .int (M 6 1), .int (M 6 2)])), ((am 1), eI C 12 (M 0)), ((am 2), eI C 12 (M 1)), ((am 3), eI C 12 (M 2)), ((am 4), eI C 12 (M 3)), ((am 5), eII C 2 (rr am 6 2)), ((am 6), eI C 12 (M 4)), ((am 7), eI C 12 (M 5))] := hD
      refine lv_if_ne (tgt := 52) hx hb dX6_fit_45 (by decide) (fun c_3 => ?_) (fun c_3 => ?_)
      · rcases q_way c_1 with rfl | rfl
        · have hz_0_0 : (0 : Int32) = 0 := rfl
          refine lv_aload_n hx hb dX6_fit_52 rfl (lv_at hl 0 rfl) ?_
          refine va_get (D := D) (ci := 6) (C := RX6) (T := TX6) (N := 5) hx hb hW inX6 hown hK hP 0 rfl rfl 1 (by decide) (hW _ (wa tw238 rfl)) (fun _ h9 => h9) rfl dX6_fit_53 ?_
          refine va_getN (D := D) (host := "FieldAfterField") (ci := 1) (C := RX1) (T := TX1) (N := 4) hx hb hW inX1 hown hK hP 1 rfl rfl 2 (by decide) (va_Nw.use rfl (hNw _ tw132 rfl)) (fun _ h9 => h9) rfl dX6_fit_56 ?_
          refine lv_iload_n hx hb dX6_fit_59 rfl (lv_at hl 2 rfl) ?_
          refine xaaldJ hx hb hK hP 6 rfl 0 (nI_lit 0) (by decide) (by decide) (b := (af 6)) rfl dX6_fit_60 ?_
          refine lv_iload_n hx hb dX6_fit_61 rfl (lv_at hl 3 rfl) ?_
          refine xlald hx hb hK hP 7 rfl k rfl (by omega) (by decide) dX6_fit_62 ?_
          refine lv_aload_n hx hb dX6_fit_63 rfl (lv_at hl 0 rfl) ?_
          refine va_get (D := D) (ci := 6) (C := RX6) (T := TX6) (N := 5) hx hb hW inX6 hown hK hP 0 rfl rfl 1 (by decide) (hW _ (wa tw238 rfl)) (fun _ h9 => h9) rfl dX6_fit_64 ?_
          refine va_getN (D := D) (host := "FieldAfterField") (ci := 1) (C := RX1) (T := TX1) (N := 4) hx hb hW inX1 hown hK hP 1 rfl rfl 0 (by decide) (va_Nw.use rfl (hNw _ tw129 rfl)) (fun _ h9 => h9) rfl dX6_fit_67 ?_
          refine va_getN (D := D) (host := "FieldAfterField") (ci := 5) (C := RX5) (T := TX5) (N := 13) hx hb hW inX5 hown hK hP 2 rfl rfl 12 (by decide) (va_Nw.use rfl (hNw _ tw98 rfl)) (fun _ h9 => h9) rfl dX6_fit_70 ?_
          refine lv_iload hx hb dX6_fit_73 (lv_at hl 4 rfl) ?_
          refine xrl (r := f6_partOf (((f1_make M N model (f2_counting M) F) 3) k) ((f1_make M N model (f2_counting M) F) 0 12) what) (rS (As := [.long (((f1_make M N model (f2_counting M) F) 3) k), .long ((f1_make M N model (f2_counting M) F) 0 12), .int what]) (n := 3) (rest := []) ⟨hx, hb, hml, hown, hW⟩ (kX6_partOf l (((f1_make M N model (f2_counting M) F) 3) k) ((f1_make M N model (f2_counting M) F) 0 12) what) (wa tw377 rfl) (wa tw375 rfl) (wa tw376 rfl) (wa tw1 rfl) (by decide +kernel) ⟨Nat.le_of_ble_eq_true rfl, Nat.le_of_ble_eq_true rfl⟩ pS0 hl.1 rfl (Nat.le_of_ble_eq_true rfl) dX6_fit_75 ⟨Nat.le_of_ble_eq_true rfl, Nat.le_of_ble_eq_true rfl⟩ rfl rfl rfl) ?_
          have hb_0 : (f6_fit_F M F fm N model 0 (nI k) what) = f1_make M N model (f2_counting M) F := (by simp only [f6_fit, f6_fit_F, f6_fit_fm, if_pos c_1, if_pos c_2, if_neg c_3, if_pos hz_0_0, hix_k, if_true, if_false, ↓reduceIte])
          have hb_1 : (f6_fit_fm M F fm N model 0 (nI k) what) = model := (by simp only [f6_fit, f6_fit_F, f6_fit_fm, if_pos c_1, if_pos c_2, if_neg c_3, if_pos hz_0_0, hix_k, if_true, if_false, ↓reduceIte])
          have hP9 : va_P D vwCl (((wX ax am af ap ab ar) ++ (wF af C (f6_fit_F M F fm N model 0 (nI k) what) (f6_fit_fm M F fm N model 0 (nI k) what)) ++ (wM am C M))) H := by rw [hb_0, hb_1]; exact hP
          have hD9 : va_D A (((wX ax am af ap ab ar) ++ (wF af C (f6_fit_F M F fm N model 0 (nI k) what) (f6_fit_fm M F fm N model 0 (nI k) what)) ++ (wM am C M))) := by rw [hb_0, hb_1]; exact hD
          exact W.lret (v := f6_partOf (((f1_make M N model (f2_counting M) F) 3) k) ((f1_make M N model (f2_counting M) F) 0 12) what) hx hb hr (fun t ht _ => ⟨⟨_, (), rfl, (by simp only [f6_fit, f6_fit_F, f6_fit_fm, if_pos c_1, if_pos c_2, if_neg c_3, if_pos hz_0_0, hix_k, if_true, if_false, ↓reduceIte]), ⟨by rw [ht]; exact hP9, by rw [hAe]; exact hD9⟩⟩, hS.F ht⟩) hS.2.2 dX6_fit_78
        · have hz_1_0 : ¬ (1 : Int32) = 0 := by decide
          refine lv_aload_n hx hb dX6_fit_52 rfl (lv_at hl 0 rfl) ?_
          refine va_get (D := D) (ci := 6) (C := RX6) (T := TX6) (N := 5) hx hb hW inX6 hown hK hP 0 rfl rfl 1 (by decide) (hW _ (wa tw238 rfl)) (fun _ h9 => h9) rfl dX6_fit_53 ?_
          refine va_getN (D := D) (host := "FieldAfterField") (ci := 1) (C := RX1) (T := TX1) (N := 4) hx hb hW inX1 hown hK hP 1 rfl rfl 2 (by decide) (va_Nw.use rfl (hNw _ tw132 rfl)) (fun _ h9 => h9) rfl dX6_fit_56 ?_
          refine lv_iload_n hx hb dX6_fit_59 rfl (lv_at hl 2 rfl) ?_
          refine xaaldJ hx hb hK hP 6 rfl 1 (nI_lit 1) (by decide) (by decide) (b := (af 7)) rfl dX6_fit_60 ?_
          refine lv_iload_n hx hb dX6_fit_61 rfl (lv_at hl 3 rfl) ?_
          refine xlald hx hb hK hP 8 rfl k rfl (by omega) (by decide) dX6_fit_62 ?_
          refine lv_aload_n hx hb dX6_fit_63 rfl (lv_at hl 0 rfl) ?_
          refine va_get (D := D) (ci := 6) (C := RX6) (T := TX6) (N := 5) hx hb hW inX6 hown hK hP 0 rfl rfl 1 (by decide) (hW _ (wa tw238 rfl)) (fun _ h9 => h9) rfl dX6_fit_64 ?_
          refine va_getN (D := D) (host := "FieldAfterField") (ci := 1) (C := RX1) (T := TX1) (N := 4) hx hb hW inX1 hown hK hP 1 rfl rfl 0 (by decide) (va_Nw.use rfl (hNw _ tw129 rfl)) (fun _ h9 => h9) rfl dX6_fit_67 ?_
          refine va_getN (D := D) (host := "FieldAfterField") (ci := 5) (C := RX5) (T := TX5) (N := 13) hx hb hW inX5 hown hK hP 2 rfl rfl 12 (by decide) (va_Nw.use rfl (hNw _ tw98 rfl)) (fun _ h9 => h9) rfl dX6_fit_70 ?_
          refine lv_iload hx hb dX6_fit_73 (lv_at hl 4 rfl) ?_
          refine xrl (r := f6_partOf (((f1_make M N model (f2_counting M) F) 4) k) ((f1_make M N model (f2_counting M) F) 0 12) what) (rS (As := [.long (((f1_make M N model (f2_counting M) F) 4) k), .long ((f1_make M N model (f2_counting M) F) 0 12), .int what]) (n := 3) (rest := []) ⟨hx, hb, hml, hown, hW⟩ (kX6_partOf l (((f1_make M N model (f2_counting M) F) 4) k) ((f1_make M N model (f2_counting M) F) 0 12) what) (wa tw377 rfl) (wa tw375 rfl) (wa tw376 rfl) (wa tw1 rfl) (by decide +kernel) ⟨Nat.le_of_ble_eq_true rfl, Nat.le_of_ble_eq_true rfl⟩ pS0 hl.1 rfl (Nat.le_of_ble_eq_true rfl) dX6_fit_75 ⟨Nat.le_of_ble_eq_true rfl, Nat.le_of_ble_eq_true rfl⟩ rfl rfl rfl) ?_
          have hb_0 : (f6_fit_F M F fm N model 1 (nI k) what) = f1_make M N model (f2_counting M) F := (by simp only [f6_fit, f6_fit_F, f6_fit_fm, if_pos c_1, if_pos c_2, if_neg c_3, if_neg hz_1_0, hix_k, if_true, if_false, ↓reduceIte])
          have hb_1 : (f6_fit_fm M F fm N model 1 (nI k) what) = model := (by simp only [f6_fit, f6_fit_F, f6_fit_fm, if_pos c_1, if_pos c_2, if_neg c_3, if_neg hz_1_0, hix_k, if_true, if_false, ↓reduceIte])
          have hP9 : va_P D vwCl (((wX ax am af ap ab ar) ++ (wF af C (f6_fit_F M F fm N model 1 (nI k) what) (f6_fit_fm M F fm N model 1 (nI k) what)) ++ (wM am C M))) H := by rw [hb_0, hb_1]; exact hP
          have hD9 : va_D A (((wX ax am af ap ab ar) ++ (wF af C (f6_fit_F M F fm N model 1 (nI k) what) (f6_fit_fm M F fm N model 1 (nI k) what)) ++ (wM am C M))) := by rw [hb_0, hb_1]; exact hD
          exact W.lret (v := f6_partOf (((f1_make M N model (f2_counting M) F) 4) k) ((f1_make M N model (f2_counting M) F) 0 12) what) hx hb hr (fun t ht _ => ⟨⟨_, (), rfl, (by simp only [f6_fit, f6_fit_F, f6_fit_fm, if_pos c_1, if_pos c_2, if_neg c_3, if_neg hz_1_0, hix_k, if_true, if_false, ↓reduceIte]), ⟨by rw [ht]; exact hP9, by rw [hAe]; exact hD9⟩⟩, hS.F ht⟩) hS.2.2 dX6_fit_78
      · refine lv_ldc2 hx hb hown (hW _ (wa tw374 rfl)) dX6_fit_48 ?_
        have hb_0 : (f6_fit_F M F fm N model way (nI k) what) = f1_make M N model (f2_counting M) F := (by simp only [f6_fit, f6_fit_F, f6_fit_fm, if_pos c_1, if_pos c_2, if_pos c_3, hix_k])
        have hb_1 : (f6_fit_fm M F fm N model way (nI k) what) = model := (by simp only [f6_fit, f6_fit_F, f6_fit_fm, if_pos c_1, if_pos c_2, if_pos c_3, hix_k])
        have hP9 : va_P D vwCl (((wX ax am af ap ab ar) ++ (wF af C (f6_fit_F M F fm N model way (nI k) what) (f6_fit_fm M F fm N model way (nI k) what)) ++ (wM am C M))) H := by rw [hb_0, hb_1]; exact hP
        have hD9 : va_D A (((wX ax am af ap ab ar) ++ (wF af C (f6_fit_F M F fm N model way (nI k) what) (f6_fit_fm M F fm N model way (nI k) what)) ++ (wM am C M))) := by rw [hb_0, hb_1]; exact hD
        exact W.lret (v := (-100003)) hx hb hr (fun t ht _ => ⟨⟨_, (), rfl, (by simp only [f6_fit, f6_fit_F, f6_fit_fm, if_pos c_1, if_pos c_2, if_pos c_3, hix_k]), ⟨by rw [ht]; exact hP9, by rw [hAe]; exact hD9⟩⟩, hS.F ht⟩) hS.2.2 dX6_fit_51
    · refine lv_ldc2 hx hb hown (hW _ (wa tw330 rfl)) dX6_fit_22 ?_
      have hb_0 : (f6_fit_F M F fm N model way t what) = F := (by simp only [f6_fit, f6_fit_F, f6_fit_fm, if_pos c_1, if_neg c_2])
      have hb_1 : (f6_fit_fm M F fm N model way t what) = fm := (by simp only [f6_fit, f6_fit_F, f6_fit_fm, if_pos c_1, if_neg c_2])
      have hP9 : va_P D vwCl (((wX ax am af ap ab ar) ++ (wF af C (f6_fit_F M F fm N model way t what) (f6_fit_fm M F fm N model way t what)) ++ (wM am C M))) s.heap := by rw [hb_0, hb_1]; exact hP
      have hD9 : va_D A (((wX ax am af ap ab ar) ++ (wF af C (f6_fit_F M F fm N model way t what) (f6_fit_fm M F fm N model way t what)) ++ (wM am C M))) := by rw [hb_0, hb_1]; exact hD
      exact W.lret (v := (-100002)) hx hb hr (fun t ht _ => ⟨⟨_, (), rfl, (by simp only [f6_fit, f6_fit_F, f6_fit_fm, if_pos c_1, if_neg c_2]), ⟨by rw [ht]; exact hP9, by rw [hAe]; exact hD9⟩⟩, hS.F ht⟩) hS.2.2 dX6_fit_25

def f6_rest (M : Nat → Nat → Int32) (F : Nat → Nat → Int64) (fm : Int32) (N : Nat) (model way x what : Int32) : Int64 := (if (f2_has M x) = 0 then ((-100001)) else (if (f6_outsideFit model way what) = 0 then (if (f6_isIn (M 6 1) x) = 0 then (if (f1_ok (f1_make M N model (f2_counting M) F)) = 0 then ((-100003)) else (if way = 0 then (f6_partOf (f1_rest (M 4) ((f1_make M N model (f2_counting M) F) 3) ((f1_make M N model (f2_counting M) F) 0) M model (ix x)) ((f1_make M N model (f2_counting M) F) 0 12) what) else (f6_partOf (f1_rest (M 5) ((f1_make M N model (f2_counting M) F) 4) ((f1_make M N model (f2_counting M) F) 0) M model (ix x)) ((f1_make M N model (f2_counting M) F) 0 12) what))) else ((-100003))) else ((-100002))))
def f6_rest_F (M : Nat → Nat → Int32) (F : Nat → Nat → Int64) (fm : Int32) (N : Nat) (model way x what : Int32) : Nat → Nat → Int64 := (if (f2_has M x) = 0 then (F) else (if (f6_outsideFit model way what) = 0 then (if (f6_isIn (M 6 1) x) = 0 then (f1_make M N model (f2_counting M) F) else (F)) else (F)))
def f6_rest_fm (M : Nat → Nat → Int32) (F : Nat → Nat → Int64) (fm : Int32) (N : Nat) (model way x what : Int32) : Int32 := (if (f2_has M x) = 0 then (fm) else (if (f6_outsideFit model way what) = 0 then (if (f6_isIn (M 6 1) x) = 0 then (model) else (fm)) else (fm)))
set_option maxHeartbeats 4000000 in
set_option maxRecDepth 100000 in
theorem kX6_rest (l : Launch) (D : va_G) (C : Nat → ClassId) (ax am af ap ab ar : Nat → Nat) (F : Nat → Nat → Int64) (fm : Int32) (M : Nat → Nat → Int32) (model way x what : Int32) (sz : Nat) (N : Nat) (hN : M 6 0 = nI N) (hN12 : N ≤ 12) : Wl l D C yX6_rest cX6_rest 5 3 [.ref (ax 0), .int model, .int way, .int x, .int what] ((wX ax am af ap ab ar) ++ (wF af C F fm) ++ (wM am C M)) (((wX ax am af ap ab ar) ++ (wF af C (f6_rest_F M F fm N model way x what) (f6_rest_fm M F fm N model way x what)) ++ (wM am C M))) (f6_rest M F fm N model way x what) sz := by
  refine Met.ofW (cc := cX6_rest) (maxL := 5) (ret := (some .long)) (by decide) rfl ?_
  intro p e s m args below meth c s₁ B hml hv
  obtain ⟨rfl, hsz, hP, hK, hNw, hD0⟩ := hv
  have hx := B.exec
  have hb := B.bytes
  have hr := B.returns
  have hts := atoms_spec (ws := wm yX6_rest cX6_rest 5 (some .long)) B.pre
  have hown : s.vm.findClass RX6 = some m.cls := findClass_of_methodNamed B.named
  have hlocks := B.notSynchronized
  have hW : ∀ w ∈ WA, w.before _ s = true := fun w h => hts w (List.mem_cons_of_mem _ h)
  subst hsz
  have hD := hD0.self (sz := s.heap.size)
  generalize hAe : va_A ((wX ax am af ap ab ar) ++ (wF af C F fm) ++ (wM am C M)) s.heap.size = A at hD ⊢
  have hA : ∀ q : Nat, s.heap.size ≤ q → A q := fun q h => by rw [← hAe]; exact Or.inr h
  have hS : va_S A s.heap s.heap [] := va_S.rf
  have hP : va_P D vwCl [((ax 0), .inr (6, [.ref (am 0), .ref (af 0), .ref (ap 0), .ref (ab 0), .ref (ar 0)])), ((af 0), .inr (1, [.ref (af 1), .ref (af 2), .ref (af 5), .int fm])), ((af 1), .inr (5, [.long (F 0 0), .long (F 0 1), .long (F 0 2), .long (F 0 3), .long (F 0 4), .long (F 0 5), .long (F 0 6), .long (F 0 7), .long (F 0 8), .long (F 0 9), .long (F 0 10), .long (F 0 11), .long (F 0 12)])), ((af 2), eJJ C 2 (rr af 3 2)), ((af 3), eJ C 4 (F 1)), ((af 4), eJ C 4 (F 2)), ((af 5), eJJ C 2 (rr af 6 2)), ((af 6), eJ C 3 (F 3)), ((af 7), eJ C 3 (F 4)), ((am 0), .inr (2, [.ref (am 1), .ref (am 2), .ref (am 3), .ref (am 4), .ref (am 5), .int (M 6 0), .int (M 6 1), .int (M 6 2)])), ((am 1), eI C 12 (M 0)), ((am 2), eI C 12 (M 1)), ((am 3), eI C 12 (M 2)), ((am 4), eI C 12 (M 3)), ((am 5), eII C 2 (rr am 6 2)), ((am 6), eI C 12 (M 4)), ((am 7), eI C 12 (M 5))] s.heap := hP
  have hD : va_D A [((ax 0), .inr (6, [.ref (am 0), .ref (af 0), .ref (ap 0), .ref (ab 0), .ref (ar 0)])), ((af 0), .inr (1, [.ref (af 1), .ref (af 2), .ref (af 5), .int fm])), ((af 1), .inr (5, [.long (F 0 0), .long (F 0 1), .long (F 0 2), .long (F 0 3), .long (F 0 4), .long (F 0 5), .long (F 0 6), .long (F 0 7), .long (F 0 8), .long (F 0 9), .long (F 0 10), .long (F 0 11), .long (F 0 12)])), ((af 2), eJJ C 2 (rr af 3 2)), ((af 3), eJ C 4 (F 1)), ((af 4), eJ C 4 (F 2)), ((af 5), eJJ C 2 (rr af 6 2)), ((af 6), eJ C 3 (F 3)), ((af 7), eJ C 3 (F 4)), ((am 0), .inr (2, [.ref (am 1), .ref (am 2), .ref (am 3), .ref (am 4), .ref (am 5), .int (M 6 0), .int (M 6 1), .int (M 6 2)])), ((am 1), eI C 12 (M 0)), ((am 2), eI C 12 (M 1)), ((am 3), eI C 12 (M 2)), ((am 4), eI C 12 (M 3)), ((am 5), eII C 2 (rr am 6 2)), ((am 6), eI C 12 (M 4)), ((am 7), eI C 12 (M 5))] := hD
  have hl := lv_entry ([.ref (ax 0), .int model, .int way, .int x, .int what]) (n := 5) (Nat.le_of_ble_eq_true rfl)
  rw [lg_entry_eq]
  generalize (lg_sl ([.ref (ax 0), .int model, .int way, .int x, .int what]) ++ List.replicate (5 - (lg_sl ([.ref (ax 0), .int model, .int way, .int x, .int what])).length) Slot.unset).toArray = ls at hl ⊢
  have hl : lv_has ls 5 [(0, .ref (ax 0)), (1, .int model), (2, .int way), (3, .int x), (4, .int what)] := hl
  refine lv_aload_n hx hb dX6_rest_0 rfl (lv_at hl 0 rfl) ?_
  refine va_get (D := D) (ci := 6) (C := RX6) (T := TX6) (N := 5) hx hb hW inX6 hown hK hP 0 rfl rfl 0 (by decide) (hW _ (wa tw237 rfl)) (fun _ h9 => h9) rfl dX6_rest_1 ?_
  refine lv_iload_n hx hb dX6_rest_4 rfl (lv_at hl 3 rfl) ?_
  refine xri (r := f2_has M x) (rVN (As := [.int x]) (n := 1) (rest := []) ⟨hx, hb, hml, hown, hW⟩ (kX2_has l D C am M x ) (wa tw273 rfl) (hNw _ tw270 rfl) (wa tw272 rfl) (was ts1 rfl) (wa tw2 rfl) (by decide +kernel) ⟨Nat.le_of_ble_eq_true rfl, Nat.le_of_ble_eq_true rfl⟩ (pVr (hP.sub [9, 10, 11, 12, 13, 14, 15, 16] rfl) hK hNw 0 rfl rfl) hl.1 rfl (Nat.le_of_ble_eq_true rfl) dX6_rest_5 ⟨Nat.le_of_ble_eq_true rfl, Nat.le_of_ble_eq_true rfl⟩ rfl rfl rfl) ?_
  refine lv_if_ne (tgt := 15) hx hb dX6_rest_8 (by decide) (fun c_1 => ?_) (fun c_1 => ?_)
  · obtain ⟨k, hk, rfl⟩ := q_has hN hN12 c_1
    have hix_k : ix (nI k) = k := ix_nI (by omega)
    refine lv_iload_n hx hb dX6_rest_15 rfl (lv_at hl 1 rfl) ?_
    refine lv_iload_n hx hb dX6_rest_16 rfl (lv_at hl 2 rfl) ?_
    refine lv_iload hx hb dX6_rest_17 (lv_at hl 4 rfl) ?_
    refine xri (r := f6_outsideFit model way what) (rS (As := [.int model, .int way, .int what]) (n := 3) (rest := []) ⟨hx, hb, hml, hown, hW⟩ (kX6_outsideFit l model way what) (wa tw370 rfl) (wa tw368 rfl) (wa tw369 rfl) (wa tw1 rfl) (by decide +kernel) ⟨Nat.le_of_ble_eq_true rfl, Nat.le_of_ble_eq_true rfl⟩ pS0 hl.1 rfl (Nat.le_of_ble_eq_true rfl) dX6_rest_19 ⟨Nat.le_of_ble_eq_true rfl, Nat.le_of_ble_eq_true rfl⟩ rfl rfl rfl) ?_
    refine lv_if_eq (tgt := 29) hx hb dX6_rest_22 (by decide) (fun c_2 => ?_) (fun c_2 => ?_)
    · refine lv_aload_n hx hb dX6_rest_29 rfl (lv_at hl 0 rfl) ?_
      refine va_get (D := D) (ci := 6) (C := RX6) (T := TX6) (N := 5) hx hb hW inX6 hown hK hP 0 rfl rfl 0 (by decide) (hW _ (wa tw237 rfl)) (fun _ h9 => h9) rfl dX6_rest_30 ?_
      refine va_getN (D := D) (host := "FieldAfterField") (ci := 2) (C := RX2) (T := TX2) (N := 8) hx hb hW inX2 hown hK hP 9 rfl rfl 6 (by decide) (va_Nw.use rfl (hNw _ tw44 rfl)) (fun _ h9 => h9) rfl dX6_rest_33 ?_
      refine lv_iload_n hx hb dX6_rest_36 rfl (lv_at hl 3 rfl) ?_
      refine xri (r := f6_isIn (M 6 1) (nI k)) (rS (As := [.int (M 6 1), .int (nI k)]) (n := 2) (rest := []) ⟨hx, hb, hml, hown, hW⟩ (kX6_isIn l (M 6 1) (nI k)) (wa tw285 rfl) (wa tw283 rfl) (wa tw284 rfl) (wa tw1 rfl) (by decide +kernel) ⟨Nat.le_of_ble_eq_true rfl, Nat.le_of_ble_eq_true rfl⟩ pS0 hl.1 rfl (Nat.le_of_ble_eq_true rfl) dX6_rest_37 ⟨Nat.le_of_ble_eq_true rfl, Nat.le_of_ble_eq_true rfl⟩ rfl rfl rfl) ?_
      refine lv_if_ne (tgt := 65) hx hb dX6_rest_40 (by decide) (fun c_3 => ?_) (fun c_3 => ?_)
      · refine lv_ldc2 hx hb hown (hW _ (wa tw374 rfl)) dX6_rest_65 ?_
        have hb_0 : (f6_rest_F M F fm N model way (nI k) what) = F := (by simp only [f6_rest, f6_rest_F, f6_rest_fm, if_neg c_1, if_pos c_2, if_neg c_3, hix_k])
        have hb_1 : (f6_rest_fm M F fm N model way (nI k) what) = fm := (by simp only [f6_rest, f6_rest_F, f6_rest_fm, if_neg c_1, if_pos c_2, if_neg c_3, hix_k])
        have hP9 : va_P D vwCl (((wX ax am af ap ab ar) ++ (wF af C (f6_rest_F M F fm N model way (nI k) what) (f6_rest_fm M F fm N model way (nI k) what)) ++ (wM am C M))) s.heap := by rw [hb_0, hb_1]; exact hP
        have hD9 : va_D A (((wX ax am af ap ab ar) ++ (wF af C (f6_rest_F M F fm N model way (nI k) what) (f6_rest_fm M F fm N model way (nI k) what)) ++ (wM am C M))) := by rw [hb_0, hb_1]; exact hD
        exact W.lret (v := (-100003)) hx hb hr (fun t ht _ => ⟨⟨_, (), rfl, (by simp only [f6_rest, f6_rest_F, f6_rest_fm, if_neg c_1, if_pos c_2, if_neg c_3, hix_k]), ⟨by rw [ht]; exact hP9, by rw [hAe]; exact hD9⟩⟩, hS.F ht⟩) hS.2.2 dX6_rest_68
      · refine lv_aload_n hx hb dX6_rest_43 rfl (lv_at hl 0 rfl) ?_
        refine va_get (D := D) (ci := 6) (C := RX6) (T := TX6) (N := 5) hx hb hW inX6 hown hK hP 0 rfl rfl 1 (by decide) (hW _ (wa tw238 rfl)) (fun _ h9 => h9) rfl dX6_rest_44 ?_
        refine lv_aload_n hx hb dX6_rest_47 rfl (lv_at hl 0 rfl) ?_
        refine va_get (D := D) (ci := 6) (C := RX6) (T := TX6) (N := 5) hx hb hW inX6 hown hK hP 0 rfl rfl 0 (by decide) (hW _ (wa tw237 rfl)) (fun _ h9 => h9) rfl dX6_rest_48 ?_
        refine lv_iload_n hx hb dX6_rest_51 rfl (lv_at hl 1 rfl) ?_
        refine lv_aload_n hx hb dX6_rest_52 rfl (lv_at hl 0 rfl) ?_
        refine va_get (D := D) (ci := 6) (C := RX6) (T := TX6) (N := 5) hx hb hW inX6 hown hK hP 0 rfl rfl 0 (by decide) (hW _ (wa tw237 rfl)) (fun _ h9 => h9) rfl dX6_rest_53 ?_
        refine xri (r := f2_counting M) (rVN (As := []) (n := 0) (rest := [.int model, .ref (am 0), .ref (af 0)]) ⟨hx, hb, hml, hown, hW⟩ (kX2_counting l D C am M  ) (wa tw308 rfl) (hNw _ tw305 rfl) (wa tw307 rfl) (was ts4 rfl) (wa tw2 rfl) (by decide +kernel) ⟨Nat.le_of_ble_eq_true rfl, Nat.le_of_ble_eq_true rfl⟩ (pVr (hP.sub [9, 10, 11, 12, 13, 14, 15, 16] rfl) hK hNw 0 rfl rfl) hl.1 rfl (Nat.le_of_ble_eq_true rfl) dX6_rest_56 ⟨Nat.le_of_ble_eq_true rfl, Nat.le_of_ble_eq_true rfl⟩ rfl rfl rfl) ?_
        refine xwi (wr := [((ax 0), .inr (6, [.ref (am 0), .ref (af 0), .ref (ap 0), .ref (ab 0), .ref (ar 0)]))]) (rVN (As := [.ref (am 0), .int model, .int (f2_counting M)]) (n := 3) (rest := []) ⟨hx, hb, hml, hown, hW⟩ (kX1_make l D C af F fm am M model (f2_counting M) s.heap.size N hN hN12) (wa tw334 rfl) (hNw _ tw331 rfl) (wa tw333 rfl) (was ts9 rfl) (wa tw3 rfl) (by decide +kernel) ⟨Nat.le_of_ble_eq_true rfl, Nat.le_of_ble_eq_true rfl⟩ (pVw (hP.sub [1, 2, 3, 4, 5, 6, 7, 8, 9, 10, 11, 12, 13, 14, 15, 16] rfl) (hD.sub [1, 2, 3, 4, 5, 6, 7, 8, 9, 10, 11, 12, 13, 14, 15, 16] (by decide) rfl) hK hNw 0 rfl rfl) hl.1 rfl (Nat.le_of_ble_eq_true rfl) dX6_rest_59 ⟨Nat.le_of_ble_eq_true rfl, Nat.le_of_ble_eq_true rfl⟩ rfl rfl rfl) hP hD hS hA [1, 2, 3, 4, 5, 6, 7, 8, 9, 10, 11, 12, 13, 14, 15, 16] [0] rfl rfl (by decide) (by decide) (fun H locs hP hD hS => ?_)
        have hP : va_P D vwCl [((ax 0), .inr (6, [.ref (am 0), .ref (af 0), .ref (ap 0), .ref (ab 0), .ref (ar 0)])), ((af 0), .inr (1, [.ref (af 1), .ref (af 2), .ref (af 5), .int model])), ((af 1), .inr (5, [.long ((f1_make M N model (f2_counting M) F) 0 0), .long ((f1_make M N model (f2_counting M) F) 0 1), .long ((f1_make M N model (f2_counting M) F) 0 2), .long ((f1_make M N model (f2_counting M) F) 0 3), .long ((f1_make M N model (f2_counting M) F) 0 4), .long ((f1_make M N model (f2_counting M) F) 0 5), .long ((f1_make M N model (f2_counting M) F) 0 6), .long ((f1_make M N model (f2_counting M) F) 0 7), .long ((f1_make M N model (f2_counting M) F) 0 8), .long ((f1_make M N model (f2_counting M) F) 0 9), .long ((f1_make M N model (f2_counting M) F) 0 10), .long ((f1_make M N model (f2_counting M) F) 0 11), .long ((f1_make M N model (f2_counting M) F) 0 12)])), ((af 2), eJJ C 2 (rr af 3 2)), ((af 3), eJ C 4 ((f1_make M N model (f2_counting M) F) 1)), ((af 4), eJ C 4 ((f1_make M N model (f2_counting M) F) 2)), ((af 5), eJJ C 2 (rr af 6 2)), ((af 6), eJ C 3 ((f1_make M N model (f2_counting M) F) 3)), ((af 7), eJ C 3 ((f1_make M N model (f2_counting M) F) 4)), ((am 0), .inr (2, [.ref (am 1), .ref (am 2), .ref (am 3), .ref (am 4), .ref (am 5), .int (M 6 0), .int (M 6 1), .int (M 6 2)])), ((am 1), eI C 12 (M 0)), ((am 2), eI C 12 (M 1)), ((am 3), eI C 12 (M 2)), ((am 4), eI C 12 (M 3)), ((am 5), eII C 2 (rr am 6 2)), ((am 6), eI C 12 (M 4)), ((am 7), eI C 12 (M 5))] H := hP
        have hD : va_D A [((ax 0), .inr (6, [.ref (am 0), .ref (af 0), .ref (ap 0), .ref (ab 0), .ref (ar 0)])), ((af 0), .inr (1, [.ref (af 1), .ref (af 2), .ref (af 5), .int model])), ((af 1), .inr (5, [.long ((f1_make M N model (f2_counting M) F) 0 0), .long ((f1_make M N model (f2_counting M) F) 0 1), .long ((f1_make M N model (f2_counting M) F) 0 2), .long ((f1_make M N model (f2_counting M) F) 0 3), .long ((f1_make M N model (f2_counting M) F) 0 4), .long ((f1_make M N model (f2_counting M) F) 0 5), .long ((f1_make M N model (f2_counting M) F) 0 6), .long ((f1_make M N model (f2_counting M) F) 0 7), .long ((f1_make M N model (f2_counting M) F) 0 8), .long ((f1_make M N model (f2_counting M) F) 0 9), .long ((f1_make M N model (f2_counting M) F) 0 10), .long ((f1_make M N model (f2_counting M) F) 0 11), .long ((f1_make M N model (f2_counting M) F) 0 12)])), ((af 2), eJJ C 2 (rr af 3 2)), ((af 3), eJ C 4 ((f1_make M N model (f2_counting M) F) 1)), ((af 4), eJ C 4 ((f1_make M N model (f2_counting M) F) 2)), ((af 5), eJJ C 2 (rr af 6 2)), ((af 6), eJ C 3 ((f1_make M N model (f2_counting M) F) 3)), ((af 7), eJ C 3 ((f1_make M N model (f2_counting M) F) 4)), ((am 0), .inr (2, [.ref (am 1), .ref (am 2), .ref (am 3), .ref (am 4), .ref (am 5), .int (M 6 0), .int (M 6 1), .int (M 6 2)])), ((am 1), eI C 12 (M 0)), ((am 2), eI C 12 (M 1)), ((am 3), eI C 12 (M 2)), ((am 4), eI C 12 (M 3)), ((am 5), eII C 2 (rr am 6 2)), ((am 6), eI C 12 (M 4)), ((am 7), eI C 12 (M 5))] := hD
        refine lv_if_ne (tgt := 69) hx hb dX6_rest_62 (by decide) (fun c_4 => ?_) (fun c_4 => ?_)
        · rcases q_way c_2 with rfl | rfl
          · have hz_0_0 : (0 : Int32) = 0 := rfl
            refine lv_aload_n hx hb dX6_rest_69 rfl (lv_at hl 0 rfl) ?_
            refine va_get (D := D) (ci := 6) (C := RX6) (T := TX6) (N := 5) hx hb hW inX6 hown hK hP 0 rfl rfl 1 (by decide) (hW _ (wa tw238 rfl)) (fun _ h9 => h9) rfl dX6_rest_70 ?_
            refine lv_aload_n hx hb dX6_rest_73 rfl (lv_at hl 0 rfl) ?_
            refine va_get (D := D) (ci := 6) (C := RX6) (T := TX6) (N := 5) hx hb hW inX6 hown hK hP 0 rfl rfl 0 (by decide) (hW _ (wa tw237 rfl)) (fun _ h9 => h9) rfl dX6_rest_74 ?_
            refine lv_iload_n hx hb dX6_rest_77 rfl (lv_at hl 2 rfl) ?_
            refine lv_iload_n hx hb dX6_rest_78 rfl (lv_at hl 3 rfl) ?_
            refine xrl (r := f1_rest (M 4) ((f1_make M N model (f2_counting M) F) 3) ((f1_make M N model (f2_counting M) F) 0) M model k) (rVN (As := [.ref (am 0), .int 0, .int (nI k)]) (n := 3) (rest := []) ⟨hx, hb, hml, hown, hW⟩ (kX1_restOf_0 l D C af (f1_make M N model (f2_counting M) F) model am M k (by omega)) (wa tw392 rfl) (hNw _ tw389 rfl) (wa tw391 rfl) (was ts17 rfl) (wa tw3 rfl) (by decide +kernel) ⟨Nat.le_of_ble_eq_true rfl, Nat.le_of_ble_eq_true rfl⟩ (pVr (hP.sub [1, 2, 3, 4, 5, 6, 7, 8, 9, 10, 11, 12, 13, 14, 15, 16] rfl) hK hNw 0 rfl rfl) hl.1 rfl (Nat.le_of_ble_eq_true rfl) dX6_rest_79 ⟨Nat.le_of_ble_eq_true rfl, Nat.le_of_ble_eq_true rfl⟩ rfl rfl rfl) ?_
            refine lv_aload_n hx hb dX6_rest_82 rfl (lv_at hl 0 rfl) ?_
            refine va_get (D := D) (ci := 6) (C := RX6) (T := TX6) (N := 5) hx hb hW inX6 hown hK hP 0 rfl rfl 1 (by decide) (hW _ (wa tw238 rfl)) (fun _ h9 => h9) rfl dX6_rest_83 ?_
            refine va_getN (D := D) (host := "FieldAfterField") (ci := 1) (C := RX1) (T := TX1) (N := 4) hx hb hW inX1 hown hK hP 1 rfl rfl 0 (by decide) (va_Nw.use rfl (hNw _ tw129 rfl)) (fun _ h9 => h9) rfl dX6_rest_86 ?_
            refine va_getN (D := D) (host := "FieldAfterField") (ci := 5) (C := RX5) (T := TX5) (N := 13) hx hb hW inX5 hown hK hP 2 rfl rfl 12 (by decide) (va_Nw.use rfl (hNw _ tw98 rfl)) (fun _ h9 => h9) rfl dX6_rest_89 ?_
            refine lv_iload hx hb dX6_rest_92 (lv_at hl 4 rfl) ?_
            refine xrl (r := f6_partOf (f1_rest (M 4) ((f1_make M N model (f2_counting M) F) 3) ((f1_make M N model (f2_counting M) F) 0) M model k) ((f1_make M N model (f2_counting M) F) 0 12) what) (rS (As := [.long (f1_rest (M 4) ((f1_make M N model (f2_counting M) F) 3) ((f1_make M N model (f2_counting M) F) 0) M model k), .long ((f1_make M N model (f2_counting M) F) 0 12), .int what]) (n := 3) (rest := []) ⟨hx, hb, hml, hown, hW⟩ (kX6_partOf l (f1_rest (M 4) ((f1_make M N model (f2_counting M) F) 3) ((f1_make M N model (f2_counting M) F) 0) M model k) ((f1_make M N model (f2_counting M) F) 0 12) what) (wa tw377 rfl) (wa tw375 rfl) (wa tw376 rfl) (wa tw1 rfl) (by decide +kernel) ⟨Nat.le_of_ble_eq_true rfl, Nat.le_of_ble_eq_true rfl⟩ pS0 hl.1 rfl (Nat.le_of_ble_eq_true rfl) dX6_rest_94 ⟨Nat.le_of_ble_eq_true rfl, Nat.le_of_ble_eq_true rfl⟩ rfl rfl rfl) ?_
            have hb_0 : (f6_rest_F M F fm N model 0 (nI k) what) = f1_make M N model (f2_counting M) F := (by simp only [f6_rest, f6_rest_F, f6_rest_fm, if_neg c_1, if_pos c_2, if_pos c_3, if_neg c_4, if_pos hz_0_0, hix_k, if_true, if_false, ↓reduceIte])
            have hb_1 : (f6_rest_fm M F fm N model 0 (nI k) what) = model := (by simp only [f6_rest, f6_rest_F, f6_rest_fm, if_neg c_1, if_pos c_2, if_pos c_3, if_neg c_4, if_pos hz_0_0, hix_k, if_true, if_false, ↓reduceIte])
            have hP9 : va_P D vwCl (((wX ax am af ap ab ar) ++ (wF af C (f6_rest_F M F fm N model 0 (nI k) what) (f6_rest_fm M F fm N model 0 (nI k) what)) ++ (wM am C M))) H := by rw [hb_0, hb_1]; exact hP
            have hD9 : va_D A (((wX ax am af ap ab ar) ++ (wF af C (f6_rest_F M F fm N model 0 (nI k) what) (f6_rest_fm M F fm N model 0 (nI k) what)) ++ (wM am C M))) := by rw [hb_0, hb_1]; exact hD
            exact W.lret (v := f6_partOf (f1_rest (M 4) ((f1_make M N model (f2_counting M) F) 3) ((f1_make M N model (f2_counting M) F) 0) M model k) ((f1_make M N model (f2_counting M) F) 0 12) what) hx hb hr (fun t ht _ => ⟨⟨_, (), rfl, (by simp only [f6_rest, f6_rest_F, f6_rest_fm, if_neg c_1, if_pos c_2, if_pos c_3, if_neg c_4, if_pos hz_0_0, hix_k, if_true, if_false, ↓reduceIte]), ⟨by rw [ht]; exact hP9, by rw [hAe]; exact hD9⟩⟩, hS.F ht⟩) hS.2.2 dX6_rest_97
          · have hz_1_0 : ¬ (1 : Int32) = 0 := by decide
            refine lv_aload_n hx hb dX6_rest_69 rfl (lv_at hl 0 rfl) ?_
            refine va_get (D := D) (ci := 6) (C := RX6) (T := TX6) (N := 5) hx hb hW inX6 hown hK hP 0 rfl rfl 1 (by decide) (hW _ (wa tw238 rfl)) (fun _ h9 => h9) rfl dX6_rest_70 ?_
            refine lv_aload_n hx hb dX6_rest_73 rfl (lv_at hl 0 rfl) ?_
            refine va_get (D := D) (ci := 6) (C := RX6) (T := TX6) (N := 5) hx hb hW inX6 hown hK hP 0 rfl rfl 0 (by decide) (hW _ (wa tw237 rfl)) (fun _ h9 => h9) rfl dX6_rest_74 ?_
            refine lv_iload_n hx hb dX6_rest_77 rfl (lv_at hl 2 rfl) ?_
            refine lv_iload_n hx hb dX6_rest_78 rfl (lv_at hl 3 rfl) ?_
            refine xrl (r := f1_rest (M 5) ((f1_make M N model (f2_counting M) F) 4) ((f1_make M N model (f2_counting M) F) 0) M model k) (rVN (As := [.ref (am 0), .int 1, .int (nI k)]) (n := 3) (rest := []) ⟨hx, hb, hml, hown, hW⟩ (kX1_restOf_1 l D C af (f1_make M N model (f2_counting M) F) model am M k (by omega)) (wa tw392 rfl) (hNw _ tw389 rfl) (wa tw391 rfl) (was ts17 rfl) (wa tw3 rfl) (by decide +kernel) ⟨Nat.le_of_ble_eq_true rfl, Nat.le_of_ble_eq_true rfl⟩ (pVr (hP.sub [1, 2, 3, 4, 5, 6, 7, 8, 9, 10, 11, 12, 13, 14, 15, 16] rfl) hK hNw 0 rfl rfl) hl.1 rfl (Nat.le_of_ble_eq_true rfl) dX6_rest_79 ⟨Nat.le_of_ble_eq_true rfl, Nat.le_of_ble_eq_true rfl⟩ rfl rfl rfl) ?_
            refine lv_aload_n hx hb dX6_rest_82 rfl (lv_at hl 0 rfl) ?_
            refine va_get (D := D) (ci := 6) (C := RX6) (T := TX6) (N := 5) hx hb hW inX6 hown hK hP 0 rfl rfl 1 (by decide) (hW _ (wa tw238 rfl)) (fun _ h9 => h9) rfl dX6_rest_83 ?_
            refine va_getN (D := D) (host := "FieldAfterField") (ci := 1) (C := RX1) (T := TX1) (N := 4) hx hb hW inX1 hown hK hP 1 rfl rfl 0 (by decide) (va_Nw.use rfl (hNw _ tw129 rfl)) (fun _ h9 => h9) rfl dX6_rest_86 ?_
            refine va_getN (D := D) (host := "FieldAfterField") (ci := 5) (C := RX5) (T := TX5) (N := 13) hx hb hW inX5 hown hK hP 2 rfl rfl 12 (by decide) (va_Nw.use rfl (hNw _ tw98 rfl)) (fun _ h9 => h9) rfl dX6_rest_89 ?_
            refine lv_iload hx hb dX6_rest_92 (lv_at hl 4 rfl) ?_
            refine xrl (r := f6_partOf (f1_rest (M 5) ((f1_make M N model (f2_counting M) F) 4) ((f1_make M N model (f2_counting M) F) 0) M model k) ((f1_make M N model (f2_counting M) F) 0 12) what) (rS (As := [.long (f1_rest (M 5) ((f1_make M N model (f2_counting M) F) 4) ((f1_make M N model (f2_counting M) F) 0) M model k), .long ((f1_make M N model (f2_counting M) F) 0 12), .int what]) (n := 3) (rest := []) ⟨hx, hb, hml, hown, hW⟩ (kX6_partOf l (f1_rest (M 5) ((f1_make M N model (f2_counting M) F) 4) ((f1_make M N model (f2_counting M) F) 0) M model k) ((f1_make M N model (f2_counting M) F) 0 12) what) (wa tw377 rfl) (wa tw375 rfl) (wa tw376 rfl) (wa tw1 rfl) (by decide +kernel) ⟨Nat.le_of_ble_eq_true rfl, Nat.le_of_ble_eq_true rfl⟩ pS0 hl.1 rfl (Nat.le_of_ble_eq_true rfl) dX6_rest_94 ⟨Nat.le_of_ble_eq_true rfl, Nat.le_of_ble_eq_true rfl⟩ rfl rfl rfl) ?_
            have hb_0 : (f6_rest_F M F fm N model 1 (nI k) what) = f1_make M N model (f2_counting M) F := (by simp only [f6_rest, f6_rest_F, f6_rest_fm, if_neg c_1, if_pos c_2, if_pos c_3, if_neg c_4, if_neg hz_1_0, hix_k, if_true, if_false, ↓reduceIte])
            have hb_1 : (f6_rest_fm M F fm N model 1 (nI k) what) = model := (by simp only [f6_rest, f6_rest_F, f6_rest_fm, if_neg c_1, if_pos c_2, if_pos c_3, if_neg c_4, if_neg hz_1_0, hix_k, if_true, if_false, ↓reduceIte])
            have hP9 : va_P D vwCl (((wX ax am af ap ab ar) ++ (wF af C (f6_rest_F M F fm N model 1 (nI k) what) (f6_rest_fm M F fm N model 1 (nI k) what)) ++ (wM am C M))) H := by rw [hb_0, hb_1]; exact hP
            have hD9 : va_D A (((wX ax am af ap ab ar) ++ (wF af C (f6_rest_F M F fm N model 1 (nI k) what) (f6_rest_fm M F fm N model 1 (nI k) what)) ++ (wM am C M))) := by rw [hb_0, hb_1]; exact hD
            exact W.lret (v := f6_partOf (f1_rest (M 5) ((f1_make M N model (f2_counting M) F) 4) ((f1_make M N model (f2_counting M) F) 0) M model k) ((f1_make M N model (f2_counting M) F) 0 12) what) hx hb hr (fun t ht _ => ⟨⟨_, (), rfl, (by simp only [f6_rest, f6_rest_F, f6_rest_fm, if_neg c_1, if_pos c_2, if_pos c_3, if_neg c_4, if_neg hz_1_0, hix_k, if_true, if_false, ↓reduceIte]), ⟨by rw [ht]; exact hP9, by rw [hAe]; exact hD9⟩⟩, hS.F ht⟩) hS.2.2 dX6_rest_97
        · refine lv_ldc2 hx hb hown (hW _ (wa tw374 rfl)) dX6_rest_65 ?_
          have hb_0 : (f6_rest_F M F fm N model way (nI k) what) = f1_make M N model (f2_counting M) F := (by simp only [f6_rest, f6_rest_F, f6_rest_fm, if_neg c_1, if_pos c_2, if_pos c_3, if_pos c_4, hix_k])
          have hb_1 : (f6_rest_fm M F fm N model way (nI k) what) = model := (by simp only [f6_rest, f6_rest_F, f6_rest_fm, if_neg c_1, if_pos c_2, if_pos c_3, if_pos c_4, hix_k])
          have hP9 : va_P D vwCl (((wX ax am af ap ab ar) ++ (wF af C (f6_rest_F M F fm N model way (nI k) what) (f6_rest_fm M F fm N model way (nI k) what)) ++ (wM am C M))) H := by rw [hb_0, hb_1]; exact hP
          have hD9 : va_D A (((wX ax am af ap ab ar) ++ (wF af C (f6_rest_F M F fm N model way (nI k) what) (f6_rest_fm M F fm N model way (nI k) what)) ++ (wM am C M))) := by rw [hb_0, hb_1]; exact hD
          exact W.lret (v := (-100003)) hx hb hr (fun t ht _ => ⟨⟨_, (), rfl, (by simp only [f6_rest, f6_rest_F, f6_rest_fm, if_neg c_1, if_pos c_2, if_pos c_3, if_pos c_4, hix_k]), ⟨by rw [ht]; exact hP9, by rw [hAe]; exact hD9⟩⟩, hS.F ht⟩) hS.2.2 dX6_rest_68
    · refine lv_ldc2 hx hb hown (hW _ (wa tw330 rfl)) dX6_rest_25 ?_
      have hb_0 : (f6_rest_F M F fm N model way (nI k) what) = F := (by simp only [f6_rest, f6_rest_F, f6_rest_fm, if_neg c_1, if_neg c_2, hix_k])
      have hb_1 : (f6_rest_fm M F fm N model way (nI k) what) = fm := (by simp only [f6_rest, f6_rest_F, f6_rest_fm, if_neg c_1, if_neg c_2, hix_k])
      have hP9 : va_P D vwCl (((wX ax am af ap ab ar) ++ (wF af C (f6_rest_F M F fm N model way (nI k) what) (f6_rest_fm M F fm N model way (nI k) what)) ++ (wM am C M))) s.heap := by rw [hb_0, hb_1]; exact hP
      have hD9 : va_D A (((wX ax am af ap ab ar) ++ (wF af C (f6_rest_F M F fm N model way (nI k) what) (f6_rest_fm M F fm N model way (nI k) what)) ++ (wM am C M))) := by rw [hb_0, hb_1]; exact hD
      exact W.lret (v := (-100002)) hx hb hr (fun t ht _ => ⟨⟨_, (), rfl, (by simp only [f6_rest, f6_rest_F, f6_rest_fm, if_neg c_1, if_neg c_2, hix_k]), ⟨by rw [ht]; exact hP9, by rw [hAe]; exact hD9⟩⟩, hS.F ht⟩) hS.2.2 dX6_rest_28
  · refine lv_ldc2 hx hb hown (hW _ (wa tw388 rfl)) dX6_rest_11 ?_
    have hb_0 : (f6_rest_F M F fm N model way x what) = F := (by simp only [f6_rest, f6_rest_F, f6_rest_fm, if_pos c_1])
    have hb_1 : (f6_rest_fm M F fm N model way x what) = fm := (by simp only [f6_rest, f6_rest_F, f6_rest_fm, if_pos c_1])
    have hP9 : va_P D vwCl (((wX ax am af ap ab ar) ++ (wF af C (f6_rest_F M F fm N model way x what) (f6_rest_fm M F fm N model way x what)) ++ (wM am C M))) s.heap := by rw [hb_0, hb_1]; exact hP
    have hD9 : va_D A (((wX ax am af ap ab ar) ++ (wF af C (f6_rest_F M F fm N model way x what) (f6_rest_fm M F fm N model way x what)) ++ (wM am C M))) := by rw [hb_0, hb_1]; exact hD
    exact W.lret (v := (-100001)) hx hb hr (fun t ht _ => ⟨⟨_, (), rfl, (by simp only [f6_rest, f6_rest_F, f6_rest_fm, if_pos c_1]), ⟨by rw [ht]; exact hP9, by rw [hAe]; exact hD9⟩⟩, hS.F ht⟩) hS.2.2 dX6_rest_14

def f6_spread (M : Nat → Nat → Int32) (F : Nat → Nat → Int64) (fm : Int32) (N : Nat) (model way what : Int32) : Int64 := (if (f6_outsideFit model way what) = 0 then (if (f1_ok (f1_make M N model (f2_counting M) F)) = 0 then ((-100003)) else (if way = 0 then (f6_partOf (f1_sq ((f1_make M N model (f2_counting M) F) 0) ((f1_make M N model (f2_counting M) F) 1) ((f1_make M N model (f2_counting M) F) 3)) ((f1_make M N model (f2_counting M) F) 0 12) what) else (f6_partOf (f1_sq ((f1_make M N model (f2_counting M) F) 0) ((f1_make M N model (f2_counting M) F) 2) ((f1_make M N model (f2_counting M) F) 4)) ((f1_make M N model (f2_counting M) F) 0 12) what))) else ((-100002)))
def f6_spread_F (M : Nat → Nat → Int32) (F : Nat → Nat → Int64) (fm : Int32) (N : Nat) (model way what : Int32) : Nat → Nat → Int64 := (if (f6_outsideFit model way what) = 0 then (f1_make M N model (f2_counting M) F) else (F))
def f6_spread_fm (M : Nat → Nat → Int32) (F : Nat → Nat → Int64) (fm : Int32) (N : Nat) (model way what : Int32) : Int32 := (if (f6_outsideFit model way what) = 0 then (model) else (fm))
set_option maxHeartbeats 4000000 in
set_option maxRecDepth 100000 in
theorem kX6_spread (l : Launch) (D : va_G) (C : Nat → ClassId) (ax am af ap ab ar : Nat → Nat) (F : Nat → Nat → Int64) (fm : Int32) (M : Nat → Nat → Int32) (model way what : Int32) (sz : Nat) (N : Nat) (hN : M 6 0 = nI N) (hN12 : N ≤ 12) : Wl l D C yX6_spread cX6_spread 4 3 [.ref (ax 0), .int model, .int way, .int what] ((wX ax am af ap ab ar) ++ (wF af C F fm) ++ (wM am C M)) (((wX ax am af ap ab ar) ++ (wF af C (f6_spread_F M F fm N model way what) (f6_spread_fm M F fm N model way what)) ++ (wM am C M))) (f6_spread M F fm N model way what) sz := by
  refine Met.ofW (cc := cX6_spread) (maxL := 4) (ret := (some .long)) (by decide) rfl ?_
  intro p e s m args below meth c s₁ B hml hv
  obtain ⟨rfl, hsz, hP, hK, hNw, hD0⟩ := hv
  have hx := B.exec
  have hb := B.bytes
  have hr := B.returns
  have hts := atoms_spec (ws := wm yX6_spread cX6_spread 4 (some .long)) B.pre
  have hown : s.vm.findClass RX6 = some m.cls := findClass_of_methodNamed B.named
  have hlocks := B.notSynchronized
  have hW : ∀ w ∈ WA, w.before _ s = true := fun w h => hts w (List.mem_cons_of_mem _ h)
  subst hsz
  have hD := hD0.self (sz := s.heap.size)
  generalize hAe : va_A ((wX ax am af ap ab ar) ++ (wF af C F fm) ++ (wM am C M)) s.heap.size = A at hD ⊢
  have hA : ∀ q : Nat, s.heap.size ≤ q → A q := fun q h => by rw [← hAe]; exact Or.inr h
  have hS : va_S A s.heap s.heap [] := va_S.rf
  have hP : va_P D vwCl [((ax 0), .inr (6, [.ref (am 0), .ref (af 0), .ref (ap 0), .ref (ab 0), .ref (ar 0)])), ((af 0), .inr (1, [.ref (af 1), .ref (af 2), .ref (af 5), .int fm])), ((af 1), .inr (5, [.long (F 0 0), .long (F 0 1), .long (F 0 2), .long (F 0 3), .long (F 0 4), .long (F 0 5), .long (F 0 6), .long (F 0 7), .long (F 0 8), .long (F 0 9), .long (F 0 10), .long (F 0 11), .long (F 0 12)])), ((af 2), eJJ C 2 (rr af 3 2)), ((af 3), eJ C 4 (F 1)), ((af 4), eJ C 4 (F 2)), ((af 5), eJJ C 2 (rr af 6 2)), ((af 6), eJ C 3 (F 3)), ((af 7), eJ C 3 (F 4)), ((am 0), .inr (2, [.ref (am 1), .ref (am 2), .ref (am 3), .ref (am 4), .ref (am 5), .int (M 6 0), .int (M 6 1), .int (M 6 2)])), ((am 1), eI C 12 (M 0)), ((am 2), eI C 12 (M 1)), ((am 3), eI C 12 (M 2)), ((am 4), eI C 12 (M 3)), ((am 5), eII C 2 (rr am 6 2)), ((am 6), eI C 12 (M 4)), ((am 7), eI C 12 (M 5))] s.heap := hP
  have hD : va_D A [((ax 0), .inr (6, [.ref (am 0), .ref (af 0), .ref (ap 0), .ref (ab 0), .ref (ar 0)])), ((af 0), .inr (1, [.ref (af 1), .ref (af 2), .ref (af 5), .int fm])), ((af 1), .inr (5, [.long (F 0 0), .long (F 0 1), .long (F 0 2), .long (F 0 3), .long (F 0 4), .long (F 0 5), .long (F 0 6), .long (F 0 7), .long (F 0 8), .long (F 0 9), .long (F 0 10), .long (F 0 11), .long (F 0 12)])), ((af 2), eJJ C 2 (rr af 3 2)), ((af 3), eJ C 4 (F 1)), ((af 4), eJ C 4 (F 2)), ((af 5), eJJ C 2 (rr af 6 2)), ((af 6), eJ C 3 (F 3)), ((af 7), eJ C 3 (F 4)), ((am 0), .inr (2, [.ref (am 1), .ref (am 2), .ref (am 3), .ref (am 4), .ref (am 5), .int (M 6 0), .int (M 6 1), .int (M 6 2)])), ((am 1), eI C 12 (M 0)), ((am 2), eI C 12 (M 1)), ((am 3), eI C 12 (M 2)), ((am 4), eI C 12 (M 3)), ((am 5), eII C 2 (rr am 6 2)), ((am 6), eI C 12 (M 4)), ((am 7), eI C 12 (M 5))] := hD
  have hl := lv_entry ([.ref (ax 0), .int model, .int way, .int what]) (n := 4) (Nat.le_of_ble_eq_true rfl)
  rw [lg_entry_eq]
  generalize (lg_sl ([.ref (ax 0), .int model, .int way, .int what]) ++ List.replicate (4 - (lg_sl ([.ref (ax 0), .int model, .int way, .int what])).length) Slot.unset).toArray = ls at hl ⊢
  have hl : lv_has ls 4 [(0, .ref (ax 0)), (1, .int model), (2, .int way), (3, .int what)] := hl
  refine lv_iload_n hx hb dX6_spread_0 rfl (lv_at hl 1 rfl) ?_
  refine lv_iload_n hx hb dX6_spread_1 rfl (lv_at hl 2 rfl) ?_
  refine lv_iload_n hx hb dX6_spread_2 rfl (lv_at hl 3 rfl) ?_
  refine xri (r := f6_outsideFit model way what) (rS (As := [.int model, .int way, .int what]) (n := 3) (rest := []) ⟨hx, hb, hml, hown, hW⟩ (kX6_outsideFit l model way what) (wa tw370 rfl) (wa tw368 rfl) (wa tw369 rfl) (wa tw1 rfl) (by decide +kernel) ⟨Nat.le_of_ble_eq_true rfl, Nat.le_of_ble_eq_true rfl⟩ pS0 hl.1 rfl (Nat.le_of_ble_eq_true rfl) dX6_spread_3 ⟨Nat.le_of_ble_eq_true rfl, Nat.le_of_ble_eq_true rfl⟩ rfl rfl rfl) ?_
  refine lv_if_eq (tgt := 13) hx hb dX6_spread_6 (by decide) (fun c_1 => ?_) (fun c_1 => ?_)
  · refine lv_aload_n hx hb dX6_spread_13 rfl (lv_at hl 0 rfl) ?_
    refine va_get (D := D) (ci := 6) (C := RX6) (T := TX6) (N := 5) hx hb hW inX6 hown hK hP 0 rfl rfl 1 (by decide) (hW _ (wa tw238 rfl)) (fun _ h9 => h9) rfl dX6_spread_14 ?_
    refine lv_aload_n hx hb dX6_spread_17 rfl (lv_at hl 0 rfl) ?_
    refine va_get (D := D) (ci := 6) (C := RX6) (T := TX6) (N := 5) hx hb hW inX6 hown hK hP 0 rfl rfl 0 (by decide) (hW _ (wa tw237 rfl)) (fun _ h9 => h9) rfl dX6_spread_18 ?_
    refine lv_iload_n hx hb dX6_spread_21 rfl (lv_at hl 1 rfl) ?_
    refine lv_aload_n hx hb dX6_spread_22 rfl (lv_at hl 0 rfl) ?_
    refine va_get (D := D) (ci := 6) (C := RX6) (T := TX6) (N := 5) hx hb hW inX6 hown hK hP 0 rfl rfl 0 (by decide) (hW _ (wa tw237 rfl)) (fun _ h9 => h9) rfl dX6_spread_23 ?_
    refine xri (r := f2_counting M) (rVN (As := []) (n := 0) (rest := [.int model, .ref (am 0), .ref (af 0)]) ⟨hx, hb, hml, hown, hW⟩ (kX2_counting l D C am M  ) (wa tw308 rfl) (hNw _ tw305 rfl) (wa tw307 rfl) (was ts4 rfl) (wa tw2 rfl) (by decide +kernel) ⟨Nat.le_of_ble_eq_true rfl, Nat.le_of_ble_eq_true rfl⟩ (pVr (hP.sub [9, 10, 11, 12, 13, 14, 15, 16] rfl) hK hNw 0 rfl rfl) hl.1 rfl (Nat.le_of_ble_eq_true rfl) dX6_spread_26 ⟨Nat.le_of_ble_eq_true rfl, Nat.le_of_ble_eq_true rfl⟩ rfl rfl rfl) ?_
    refine xwi (wr := [((ax 0), .inr (6, [.ref (am 0), .ref (af 0), .ref (ap 0), .ref (ab 0), .ref (ar 0)]))]) (rVN (As := [.ref (am 0), .int model, .int (f2_counting M)]) (n := 3) (rest := []) ⟨hx, hb, hml, hown, hW⟩ (kX1_make l D C af F fm am M model (f2_counting M) s.heap.size N hN hN12) (wa tw334 rfl) (hNw _ tw331 rfl) (wa tw333 rfl) (was ts9 rfl) (wa tw3 rfl) (by decide +kernel) ⟨Nat.le_of_ble_eq_true rfl, Nat.le_of_ble_eq_true rfl⟩ (pVw (hP.sub [1, 2, 3, 4, 5, 6, 7, 8, 9, 10, 11, 12, 13, 14, 15, 16] rfl) (hD.sub [1, 2, 3, 4, 5, 6, 7, 8, 9, 10, 11, 12, 13, 14, 15, 16] (by decide) rfl) hK hNw 0 rfl rfl) hl.1 rfl (Nat.le_of_ble_eq_true rfl) dX6_spread_29 ⟨Nat.le_of_ble_eq_true rfl, Nat.le_of_ble_eq_true rfl⟩ rfl rfl rfl) hP hD hS hA [1, 2, 3, 4, 5, 6, 7, 8, 9, 10, 11, 12, 13, 14, 15, 16] [0] rfl rfl (by decide) (by decide) (fun H locs hP hD hS => ?_)
    have hP : va_P D vwCl [((ax 0), .inr (6, [.ref (am 0), .ref (af 0), .ref (ap 0), .ref (ab 0), .ref (ar 0)])), ((af 0), .inr (1, [.ref (af 1), .ref (af 2), .ref (af 5), .int model])), ((af 1), .inr (5, [.long ((f1_make M N model (f2_counting M) F) 0 0), .long ((f1_make M N model (f2_counting M) F) 0 1), .long ((f1_make M N model (f2_counting M) F) 0 2), .long ((f1_make M N model (f2_counting M) F) 0 3), .long ((f1_make M N model (f2_counting M) F) 0 4), .long ((f1_make M N model (f2_counting M) F) 0 5), .long ((f1_make M N model (f2_counting M) F) 0 6), .long ((f1_make M N model (f2_counting M) F) 0 7), .long ((f1_make M N model (f2_counting M) F) 0 8), .long ((f1_make M N model (f2_counting M) F) 0 9), .long ((f1_make M N model (f2_counting M) F) 0 10), .long ((f1_make M N model (f2_counting M) F) 0 11), .long ((f1_make M N model (f2_counting M) F) 0 12)])), ((af 2), eJJ C 2 (rr af 3 2)), ((af 3), eJ C 4 ((f1_make M N model (f2_counting M) F) 1)), ((af 4), eJ C 4 ((f1_make M N model (f2_counting M) F) 2)), ((af 5), eJJ C 2 (rr af 6 2)), ((af 6), eJ C 3 ((f1_make M N model (f2_counting M) F) 3)), ((af 7), eJ C 3 ((f1_make M N model (f2_counting M) F) 4)), ((am 0), .inr (2, [.ref (am 1), .ref (am 2), .ref (am 3), .ref (am 4), .ref (am 5), .int (M 6 0), .int (M 6 1), .int (M 6 2)])), ((am 1), eI C 12 (M 0)), ((am 2), eI C 12 (M 1)), ((am 3), eI C 12 (M 2)), ((am 4), eI C 12 (M 3)), ((am 5), eII C 2 (rr am 6 2)), ((am 6), eI C 12 (M 4)), ((am 7), eI C 12 (M 5))] H := hP
    have hD : va_D A [((ax 0), .inr (6, [.ref (am 0), .ref (af 0), .ref (ap 0), .ref (ab 0), .ref (ar 0)])), ((af 0), .inr (1, [.ref (af 1), .ref (af 2), .ref (af 5), .int model])), ((af 1), .inr (5, [.long ((f1_make M N model (f2_counting M) F) 0 0), .long ((f1_make M N model (f2_counting M) F) 0 1), .long ((f1_make M N model (f2_counting M) F) 0 2), .long ((f1_make M N model (f2_counting M) F) 0 3), .long ((f1_make M N model (f2_counting M) F) 0 4), .long ((f1_make M N model (f2_counting M) F) 0 5), .long ((f1_make M N model (f2_counting M) F) 0 6), .long ((f1_make M N model (f2_counting M) F) 0 7), .long ((f1_make M N model (f2_counting M) F) 0 8), .long ((f1_make M N model (f2_counting M) F) 0 9), .long ((f1_make M N model (f2_counting M) F) 0 10), .long ((f1_make M N model (f2_counting M) F) 0 11), .long ((f1_make M N model (f2_counting M) F) 0 12)])), ((af 2), eJJ C 2 (rr af 3 2)), ((af 3), eJ C 4 ((f1_make M N model (f2_counting M) F) 1)), ((af 4), eJ C 4 ((f1_make M N model (f2_counting M) F) 2)), ((af 5), eJJ C 2 (rr af 6 2)), ((af 6), eJ C 3 ((f1_make M N model (f2_counting M) F) 3)), ((af 7), eJ C 3 ((f1_make M N model (f2_counting M) F) 4)), ((am 0), .inr (2, [.ref (am 1), .ref (am 2), .ref (am 3), .ref (am 4), .ref (am 5), .int (M 6 0), .int (M 6 1), .int (M 6 2)])), ((am 1), eI C 12 (M 0)), ((am 2), eI C 12 (M 1)), ((am 3), eI C 12 (M 2)), ((am 4), eI C 12 (M 3)), ((am 5), eII C 2 (rr am 6 2)), ((am 6), eI C 12 (M 4)), ((am 7), eI C 12 (M 5))] := hD
    refine lv_if_ne (tgt := 39) hx hb dX6_spread_32 (by decide) (fun c_2 => ?_) (fun c_2 => ?_)
    · rcases q_way c_1 with rfl | rfl
      · have hz_0_0 : (0 : Int32) = 0 := rfl
        refine lv_aload_n hx hb dX6_spread_39 rfl (lv_at hl 0 rfl) ?_
        refine va_get (D := D) (ci := 6) (C := RX6) (T := TX6) (N := 5) hx hb hW inX6 hown hK hP 0 rfl rfl 1 (by decide) (hW _ (wa tw238 rfl)) (fun _ h9 => h9) rfl dX6_spread_40 ?_
        refine lv_iload_n hx hb dX6_spread_43 rfl (lv_at hl 2 rfl) ?_
        refine xrl (r := f1_sq ((f1_make M N model (f2_counting M) F) 0) ((f1_make M N model (f2_counting M) F) 1) ((f1_make M N model (f2_counting M) F) 3)) (rVN (As := [.int 0]) (n := 1) (rest := []) ⟨hx, hb, hml, hown, hW⟩ (kX1_sumOfSquares_0 l D C af (f1_make M N model (f2_counting M) F) model  ) (wa tw400 rfl) (hNw _ tw397 rfl) (wa tw399 rfl) (was ts18 rfl) (wa tw3 rfl) (by decide +kernel) ⟨Nat.le_of_ble_eq_true rfl, Nat.le_of_ble_eq_true rfl⟩ (pVr (hP.sub [1, 2, 3, 4, 5, 6, 7, 8] rfl) hK hNw 0 rfl rfl) hl.1 rfl (Nat.le_of_ble_eq_true rfl) dX6_spread_44 ⟨Nat.le_of_ble_eq_true rfl, Nat.le_of_ble_eq_true rfl⟩ rfl rfl rfl) ?_
        refine lv_aload_n hx hb dX6_spread_47 rfl (lv_at hl 0 rfl) ?_
        refine va_get (D := D) (ci := 6) (C := RX6) (T := TX6) (N := 5) hx hb hW inX6 hown hK hP 0 rfl rfl 1 (by decide) (hW _ (wa tw238 rfl)) (fun _ h9 => h9) rfl dX6_spread_48 ?_
        refine va_getN (D := D) (host := "FieldAfterField") (ci := 1) (C := RX1) (T := TX1) (N := 4) hx hb hW inX1 hown hK hP 1 rfl rfl 0 (by decide) (va_Nw.use rfl (hNw _ tw129 rfl)) (fun _ h9 => h9) rfl dX6_spread_51 ?_
        refine va_getN (D := D) (host := "FieldAfterField") (ci := 5) (C := RX5) (T := TX5) (N := 13) hx hb hW inX5 hown hK hP 2 rfl rfl 12 (by decide) (va_Nw.use rfl (hNw _ tw98 rfl)) (fun _ h9 => h9) rfl dX6_spread_54 ?_
        refine lv_iload_n hx hb dX6_spread_57 rfl (lv_at hl 3 rfl) ?_
        refine xrl (r := f6_partOf (f1_sq ((f1_make M N model (f2_counting M) F) 0) ((f1_make M N model (f2_counting M) F) 1) ((f1_make M N model (f2_counting M) F) 3)) ((f1_make M N model (f2_counting M) F) 0 12) what) (rS (As := [.long (f1_sq ((f1_make M N model (f2_counting M) F) 0) ((f1_make M N model (f2_counting M) F) 1) ((f1_make M N model (f2_counting M) F) 3)), .long ((f1_make M N model (f2_counting M) F) 0 12), .int what]) (n := 3) (rest := []) ⟨hx, hb, hml, hown, hW⟩ (kX6_partOf l (f1_sq ((f1_make M N model (f2_counting M) F) 0) ((f1_make M N model (f2_counting M) F) 1) ((f1_make M N model (f2_counting M) F) 3)) ((f1_make M N model (f2_counting M) F) 0 12) what) (wa tw377 rfl) (wa tw375 rfl) (wa tw376 rfl) (wa tw1 rfl) (by decide +kernel) ⟨Nat.le_of_ble_eq_true rfl, Nat.le_of_ble_eq_true rfl⟩ pS0 hl.1 rfl (Nat.le_of_ble_eq_true rfl) dX6_spread_58 ⟨Nat.le_of_ble_eq_true rfl, Nat.le_of_ble_eq_true rfl⟩ rfl rfl rfl) ?_
        have hb_0 : (f6_spread_F M F fm N model 0 what) = f1_make M N model (f2_counting M) F := (by simp only [f6_spread, f6_spread_F, f6_spread_fm, if_pos c_1, if_neg c_2, if_pos hz_0_0, if_true, if_false, ↓reduceIte])
        have hb_1 : (f6_spread_fm M F fm N model 0 what) = model := (by simp only [f6_spread, f6_spread_F, f6_spread_fm, if_pos c_1, if_neg c_2, if_pos hz_0_0, if_true, if_false, ↓reduceIte])
        have hP9 : va_P D vwCl (((wX ax am af ap ab ar) ++ (wF af C (f6_spread_F M F fm N model 0 what) (f6_spread_fm M F fm N model 0 what)) ++ (wM am C M))) H := by rw [hb_0, hb_1]; exact hP
        have hD9 : va_D A (((wX ax am af ap ab ar) ++ (wF af C (f6_spread_F M F fm N model 0 what) (f6_spread_fm M F fm N model 0 what)) ++ (wM am C M))) := by rw [hb_0, hb_1]; exact hD
        exact W.lret (v := f6_partOf (f1_sq ((f1_make M N model (f2_counting M) F) 0) ((f1_make M N model (f2_counting M) F) 1) ((f1_make M N model (f2_counting M) F) 3)) ((f1_make M N model (f2_counting M) F) 0 12) what) hx hb hr (fun t ht _ => ⟨⟨_, (), rfl, (by simp only [f6_spread, f6_spread_F, f6_spread_fm, if_pos c_1, if_neg c_2, if_pos hz_0_0, if_true, if_false, ↓reduceIte]), ⟨by rw [ht]; exact hP9, by rw [hAe]; exact hD9⟩⟩, hS.F ht⟩) hS.2.2 dX6_spread_61
      · have hz_1_0 : ¬ (1 : Int32) = 0 := by decide
        refine lv_aload_n hx hb dX6_spread_39 rfl (lv_at hl 0 rfl) ?_
        refine va_get (D := D) (ci := 6) (C := RX6) (T := TX6) (N := 5) hx hb hW inX6 hown hK hP 0 rfl rfl 1 (by decide) (hW _ (wa tw238 rfl)) (fun _ h9 => h9) rfl dX6_spread_40 ?_
        refine lv_iload_n hx hb dX6_spread_43 rfl (lv_at hl 2 rfl) ?_
        refine xrl (r := f1_sq ((f1_make M N model (f2_counting M) F) 0) ((f1_make M N model (f2_counting M) F) 2) ((f1_make M N model (f2_counting M) F) 4)) (rVN (As := [.int 1]) (n := 1) (rest := []) ⟨hx, hb, hml, hown, hW⟩ (kX1_sumOfSquares_1 l D C af (f1_make M N model (f2_counting M) F) model  ) (wa tw400 rfl) (hNw _ tw397 rfl) (wa tw399 rfl) (was ts18 rfl) (wa tw3 rfl) (by decide +kernel) ⟨Nat.le_of_ble_eq_true rfl, Nat.le_of_ble_eq_true rfl⟩ (pVr (hP.sub [1, 2, 3, 4, 5, 6, 7, 8] rfl) hK hNw 0 rfl rfl) hl.1 rfl (Nat.le_of_ble_eq_true rfl) dX6_spread_44 ⟨Nat.le_of_ble_eq_true rfl, Nat.le_of_ble_eq_true rfl⟩ rfl rfl rfl) ?_
        refine lv_aload_n hx hb dX6_spread_47 rfl (lv_at hl 0 rfl) ?_
        refine va_get (D := D) (ci := 6) (C := RX6) (T := TX6) (N := 5) hx hb hW inX6 hown hK hP 0 rfl rfl 1 (by decide) (hW _ (wa tw238 rfl)) (fun _ h9 => h9) rfl dX6_spread_48 ?_
        refine va_getN (D := D) (host := "FieldAfterField") (ci := 1) (C := RX1) (T := TX1) (N := 4) hx hb hW inX1 hown hK hP 1 rfl rfl 0 (by decide) (va_Nw.use rfl (hNw _ tw129 rfl)) (fun _ h9 => h9) rfl dX6_spread_51 ?_
        refine va_getN (D := D) (host := "FieldAfterField") (ci := 5) (C := RX5) (T := TX5) (N := 13) hx hb hW inX5 hown hK hP 2 rfl rfl 12 (by decide) (va_Nw.use rfl (hNw _ tw98 rfl)) (fun _ h9 => h9) rfl dX6_spread_54 ?_
        refine lv_iload_n hx hb dX6_spread_57 rfl (lv_at hl 3 rfl) ?_
        refine xrl (r := f6_partOf (f1_sq ((f1_make M N model (f2_counting M) F) 0) ((f1_make M N model (f2_counting M) F) 2) ((f1_make M N model (f2_counting M) F) 4)) ((f1_make M N model (f2_counting M) F) 0 12) what) (rS (As := [.long (f1_sq ((f1_make M N model (f2_counting M) F) 0) ((f1_make M N model (f2_counting M) F) 2) ((f1_make M N model (f2_counting M) F) 4)), .long ((f1_make M N model (f2_counting M) F) 0 12), .int what]) (n := 3) (rest := []) ⟨hx, hb, hml, hown, hW⟩ (kX6_partOf l (f1_sq ((f1_make M N model (f2_counting M) F) 0) ((f1_make M N model (f2_counting M) F) 2) ((f1_make M N model (f2_counting M) F) 4)) ((f1_make M N model (f2_counting M) F) 0 12) what) (wa tw377 rfl) (wa tw375 rfl) (wa tw376 rfl) (wa tw1 rfl) (by decide +kernel) ⟨Nat.le_of_ble_eq_true rfl, Nat.le_of_ble_eq_true rfl⟩ pS0 hl.1 rfl (Nat.le_of_ble_eq_true rfl) dX6_spread_58 ⟨Nat.le_of_ble_eq_true rfl, Nat.le_of_ble_eq_true rfl⟩ rfl rfl rfl) ?_
        have hb_0 : (f6_spread_F M F fm N model 1 what) = f1_make M N model (f2_counting M) F := (by simp only [f6_spread, f6_spread_F, f6_spread_fm, if_pos c_1, if_neg c_2, if_neg hz_1_0, if_true, if_false, ↓reduceIte])
        have hb_1 : (f6_spread_fm M F fm N model 1 what) = model := (by simp only [f6_spread, f6_spread_F, f6_spread_fm, if_pos c_1, if_neg c_2, if_neg hz_1_0, if_true, if_false, ↓reduceIte])
        have hP9 : va_P D vwCl (((wX ax am af ap ab ar) ++ (wF af C (f6_spread_F M F fm N model 1 what) (f6_spread_fm M F fm N model 1 what)) ++ (wM am C M))) H := by rw [hb_0, hb_1]; exact hP
        have hD9 : va_D A (((wX ax am af ap ab ar) ++ (wF af C (f6_spread_F M F fm N model 1 what) (f6_spread_fm M F fm N model 1 what)) ++ (wM am C M))) := by rw [hb_0, hb_1]; exact hD
        exact W.lret (v := f6_partOf (f1_sq ((f1_make M N model (f2_counting M) F) 0) ((f1_make M N model (f2_counting M) F) 2) ((f1_make M N model (f2_counting M) F) 4)) ((f1_make M N model (f2_counting M) F) 0 12) what) hx hb hr (fun t ht _ => ⟨⟨_, (), rfl, (by simp only [f6_spread, f6_spread_F, f6_spread_fm, if_pos c_1, if_neg c_2, if_neg hz_1_0, if_true, if_false, ↓reduceIte]), ⟨by rw [ht]; exact hP9, by rw [hAe]; exact hD9⟩⟩, hS.F ht⟩) hS.2.2 dX6_spread_61
    · refine lv_ldc2 hx hb hown (hW _ (wa tw374 rfl)) dX6_spread_35 ?_
      have hb_0 : (f6_spread_F M F fm N model way what) = f1_make M N model (f2_counting M) F := (by simp only [f6_spread, f6_spread_F, f6_spread_fm, if_pos c_1, if_pos c_2])
      have hb_1 : (f6_spread_fm M F fm N model way what) = model := (by simp only [f6_spread, f6_spread_F, f6_spread_fm, if_pos c_1, if_pos c_2])
      have hP9 : va_P D vwCl (((wX ax am af ap ab ar) ++ (wF af C (f6_spread_F M F fm N model way what) (f6_spread_fm M F fm N model way what)) ++ (wM am C M))) H := by rw [hb_0, hb_1]; exact hP
      have hD9 : va_D A (((wX ax am af ap ab ar) ++ (wF af C (f6_spread_F M F fm N model way what) (f6_spread_fm M F fm N model way what)) ++ (wM am C M))) := by rw [hb_0, hb_1]; exact hD
      exact W.lret (v := (-100003)) hx hb hr (fun t ht _ => ⟨⟨_, (), rfl, (by simp only [f6_spread, f6_spread_F, f6_spread_fm, if_pos c_1, if_pos c_2]), ⟨by rw [ht]; exact hP9, by rw [hAe]; exact hD9⟩⟩, hS.F ht⟩) hS.2.2 dX6_spread_38
  · refine lv_ldc2 hx hb hown (hW _ (wa tw330 rfl)) dX6_spread_9 ?_
    have hb_0 : (f6_spread_F M F fm N model way what) = F := (by simp only [f6_spread, f6_spread_F, f6_spread_fm, if_neg c_1])
    have hb_1 : (f6_spread_fm M F fm N model way what) = fm := (by simp only [f6_spread, f6_spread_F, f6_spread_fm, if_neg c_1])
    have hP9 : va_P D vwCl (((wX ax am af ap ab ar) ++ (wF af C (f6_spread_F M F fm N model way what) (f6_spread_fm M F fm N model way what)) ++ (wM am C M))) s.heap := by rw [hb_0, hb_1]; exact hP
    have hD9 : va_D A (((wX ax am af ap ab ar) ++ (wF af C (f6_spread_F M F fm N model way what) (f6_spread_fm M F fm N model way what)) ++ (wM am C M))) := by rw [hb_0, hb_1]; exact hD
    exact W.lret (v := (-100002)) hx hb hr (fun t ht _ => ⟨⟨_, (), rfl, (by simp only [f6_spread, f6_spread_F, f6_spread_fm, if_neg c_1]), ⟨by rw [ht]; exact hP9, by rw [hAe]; exact hD9⟩⟩, hS.F ht⟩) hS.2.2 dX6_spread_12

def f6_judge (M : Nat → Nat → Int32) (F : Nat → Nat → Int64) (fm : Int32) (N : Nat) (model limit : Int32) : Int32 := (if (f6_outside model 0 2) = 0 then (if (f6_outside limit 1 999) = 0 then (if (f1_ok (f1_make M N model (f2_notLost M) F)) = 0 then ((-100003)) else (bitC (f2_notLost M &&& ((f1_liars M N model limit (f1_make M N model (f2_notLost M) F) model).1 ^^^ (-1))))) else ((-100002))) else ((-100002)))
def f6_judge_F (M : Nat → Nat → Int32) (F : Nat → Nat → Int64) (fm : Int32) (N : Nat) (model limit : Int32) : Nat → Nat → Int64 := (if (f6_outside model 0 2) = 0 then (if (f6_outside limit 1 999) = 0 then (if (f1_ok (f1_make M N model (f2_notLost M) F)) = 0 then (f1_make M N model (f2_notLost M) F) else ((f1_liars M N model limit (f1_make M N model (f2_notLost M) F) model).2.1)) else (F)) else (F))
def f6_judge_fm (M : Nat → Nat → Int32) (F : Nat → Nat → Int64) (fm : Int32) (N : Nat) (model limit : Int32) : Int32 := (if (f6_outside model 0 2) = 0 then (if (f6_outside limit 1 999) = 0 then (if (f1_ok (f1_make M N model (f2_notLost M) F)) = 0 then (model) else ((f1_liars M N model limit (f1_make M N model (f2_notLost M) F) model).2.2)) else (fm)) else (fm))
def f6_judge_M (M : Nat → Nat → Int32) (F : Nat → Nat → Int64) (fm : Int32) (N : Nat) (model limit : Int32) : Nat → Nat → Int32 := (if (f6_outside model 0 2) = 0 then (if (f6_outside limit 1 999) = 0 then (if (f1_ok (f1_make M N model (f2_notLost M) F)) = 0 then (M) else (uM M 6 (upd (M 6) 2 (f2_notLost M &&& ((f1_liars M N model limit (f1_make M N model (f2_notLost M) F) model).1 ^^^ (-1)))))) else (M)) else (M))
set_option maxHeartbeats 4000000 in
set_option maxRecDepth 100000 in
theorem kX6_judge (l : Launch) (D : va_G) (C : Nat → ClassId) (ax am af ap ab ar : Nat → Nat) (F : Nat → Nat → Int64) (fm : Int32) (M : Nat → Nat → Int32) (model limit : Int32) (sz : Nat) (N : Nat) (hN : M 6 0 = nI N) (hN12 : N ≤ 12) : Wi l D C yX6_judge cX6_judge 3 .int 5 [.ref (ax 0), .int model, .int limit] ((wX ax am af ap ab ar) ++ (wF af C F fm) ++ (wM am C M)) (((wX ax am af ap ab ar) ++ (wF af C (f6_judge_F M F fm N model limit) (f6_judge_fm M F fm N model limit)) ++ (wM am C (f6_judge_M M F fm N model limit)))) (f6_judge M F fm N model limit) sz := by
  refine Met.ofW (cc := cX6_judge) (maxL := 3) (ret := (some .int)) (by decide) rfl ?_
  intro p e s m args below meth c s₁ B hml hv
  obtain ⟨rfl, hsz, hP, hK, hNw, hD0⟩ := hv
  have hx := B.exec
  have hb := B.bytes
  have hr := B.returns
  have hts := atoms_spec (ws := wm yX6_judge cX6_judge 3 (some .int)) B.pre
  have hown : s.vm.findClass RX6 = some m.cls := findClass_of_methodNamed B.named
  have hlocks := B.notSynchronized
  have hW : ∀ w ∈ WA, w.before _ s = true := fun w h => hts w (List.mem_cons_of_mem _ h)
  subst hsz
  have hD := hD0.self (sz := s.heap.size)
  generalize hAe : va_A ((wX ax am af ap ab ar) ++ (wF af C F fm) ++ (wM am C M)) s.heap.size = A at hD ⊢
  have hA : ∀ q : Nat, s.heap.size ≤ q → A q := fun q h => by rw [← hAe]; exact Or.inr h
  have hS : va_S A s.heap s.heap [] := va_S.rf
  have hP : va_P D vwCl [((ax 0), .inr (6, [.ref (am 0), .ref (af 0), .ref (ap 0), .ref (ab 0), .ref (ar 0)])), ((af 0), .inr (1, [.ref (af 1), .ref (af 2), .ref (af 5), .int fm])), ((af 1), .inr (5, [.long (F 0 0), .long (F 0 1), .long (F 0 2), .long (F 0 3), .long (F 0 4), .long (F 0 5), .long (F 0 6), .long (F 0 7), .long (F 0 8), .long (F 0 9), .long (F 0 10), .long (F 0 11), .long (F 0 12)])), ((af 2), eJJ C 2 (rr af 3 2)), ((af 3), eJ C 4 (F 1)), ((af 4), eJ C 4 (F 2)), ((af 5), eJJ C 2 (rr af 6 2)), ((af 6), eJ C 3 (F 3)), ((af 7), eJ C 3 (F 4)), ((am 0), .inr (2, [.ref (am 1), .ref (am 2), .ref (am 3), .ref (am 4), .ref (am 5), .int (M 6 0), .int (M 6 1), .int (M 6 2)])), ((am 1), eI C 12 (M 0)), ((am 2), eI C 12 (M 1)), ((am 3), eI C 12 (M 2)), ((am 4), eI C 12 (M 3)), ((am 5), eII C 2 (rr am 6 2)), ((am 6), eI C 12 (M 4)), ((am 7), eI C 12 (M 5))] s.heap := hP
  have hD : va_D A [((ax 0), .inr (6, [.ref (am 0), .ref (af 0), .ref (ap 0), .ref (ab 0), .ref (ar 0)])), ((af 0), .inr (1, [.ref (af 1), .ref (af 2), .ref (af 5), .int fm])), ((af 1), .inr (5, [.long (F 0 0), .long (F 0 1), .long (F 0 2), .long (F 0 3), .long (F 0 4), .long (F 0 5), .long (F 0 6), .long (F 0 7), .long (F 0 8), .long (F 0 9), .long (F 0 10), .long (F 0 11), .long (F 0 12)])), ((af 2), eJJ C 2 (rr af 3 2)), ((af 3), eJ C 4 (F 1)), ((af 4), eJ C 4 (F 2)), ((af 5), eJJ C 2 (rr af 6 2)), ((af 6), eJ C 3 (F 3)), ((af 7), eJ C 3 (F 4)), ((am 0), .inr (2, [.ref (am 1), .ref (am 2), .ref (am 3), .ref (am 4), .ref (am 5), .int (M 6 0), .int (M 6 1), .int (M 6 2)])), ((am 1), eI C 12 (M 0)), ((am 2), eI C 12 (M 1)), ((am 3), eI C 12 (M 2)), ((am 4), eI C 12 (M 3)), ((am 5), eII C 2 (rr am 6 2)), ((am 6), eI C 12 (M 4)), ((am 7), eI C 12 (M 5))] := hD
  have hl := lv_entry ([.ref (ax 0), .int model, .int limit]) (n := 3) (Nat.le_of_ble_eq_true rfl)
  rw [lg_entry_eq]
  generalize (lg_sl ([.ref (ax 0), .int model, .int limit]) ++ List.replicate (3 - (lg_sl ([.ref (ax 0), .int model, .int limit])).length) Slot.unset).toArray = ls at hl ⊢
  have hl : lv_has ls 3 [(0, .ref (ax 0)), (1, .int model), (2, .int limit)] := hl
  refine lv_iload_n hx hb dX6_judge_0 rfl (lv_at hl 1 rfl) ?_
  refine lv_iconst (v := 0) hx hb dX6_judge_1 (by decide) ?_
  refine lv_iconst (v := 2) hx hb dX6_judge_2 (by decide) ?_
  refine xri (r := f6_outside model 0 2) (rS (As := [.int model, .int 0, .int 2]) (n := 3) (rest := []) ⟨hx, hb, hml, hown, hW⟩ (kX6_outside l model 0 2) (wa tw259 rfl) (wa tw257 rfl) (wa tw258 rfl) (wa tw1 rfl) (by decide +kernel) ⟨Nat.le_of_ble_eq_true rfl, Nat.le_of_ble_eq_true rfl⟩ pS0 hl.1 rfl (Nat.le_of_ble_eq_true rfl) dX6_judge_3 ⟨Nat.le_of_ble_eq_true rfl, Nat.le_of_ble_eq_true rfl⟩ rfl rfl rfl) ?_
  refine lv_if_ne (tgt := 20) hx hb dX6_judge_6 (by decide) (fun c_1 => ?_) (fun c_1 => ?_)
  · refine lv_ldc hx hb hown (hW _ (wa tw260 rfl)) dX6_judge_20 ?_
    have hb_0 : (f6_judge_F M F fm N model limit) = F := (by simp only [f6_judge, f6_judge_F, f6_judge_fm, f6_judge_M, if_neg c_1])
    have hb_1 : (f6_judge_fm M F fm N model limit) = fm := (by simp only [f6_judge, f6_judge_F, f6_judge_fm, f6_judge_M, if_neg c_1])
    have hb_2 : (f6_judge_M M F fm N model limit) = M := (by simp only [f6_judge, f6_judge_F, f6_judge_fm, f6_judge_M, if_neg c_1])
    have hP9 : va_P D vwCl (((wX ax am af ap ab ar) ++ (wF af C (f6_judge_F M F fm N model limit) (f6_judge_fm M F fm N model limit)) ++ (wM am C (f6_judge_M M F fm N model limit)))) s.heap := by rw [hb_0, hb_1, hb_2]; exact hP
    have hD9 : va_D A (((wX ax am af ap ab ar) ++ (wF af C (f6_judge_F M F fm N model limit) (f6_judge_fm M F fm N model limit)) ++ (wM am C (f6_judge_M M F fm N model limit)))) := by rw [hb_0, hb_1, hb_2]; exact hD
    exact W.iret (v := (-100002)) hx hb hr (fun t ht _ => ⟨⟨_, (), rfl, (by simp only [f6_judge, f6_judge_F, f6_judge_fm, f6_judge_M, if_neg c_1]), ⟨by rw [ht]; exact hP9, by rw [hAe]; exact hD9⟩⟩, hS.F ht⟩) hS.2.2 dX6_judge_22
  · refine lv_iload_n hx hb dX6_judge_9 rfl (lv_at hl 2 rfl) ?_
    refine lv_iconst (v := 1) hx hb dX6_judge_10 (by decide) ?_
    refine lv_sipush (v := 999) hx hb dX6_judge_11 (by decide) ?_
    refine xri (r := f6_outside limit 1 999) (rS (As := [.int limit, .int 1, .int 999]) (n := 3) (rest := []) ⟨hx, hb, hml, hown, hW⟩ (kX6_outside l limit 1 999) (wa tw259 rfl) (wa tw257 rfl) (wa tw258 rfl) (wa tw1 rfl) (by decide +kernel) ⟨Nat.le_of_ble_eq_true rfl, Nat.le_of_ble_eq_true rfl⟩ pS0 hl.1 rfl (Nat.le_of_ble_eq_true rfl) dX6_judge_14 ⟨Nat.le_of_ble_eq_true rfl, Nat.le_of_ble_eq_true rfl⟩ rfl rfl rfl) ?_
    refine lv_if_eq (tgt := 23) hx hb dX6_judge_17 (by decide) (fun c_2 => ?_) (fun c_2 => ?_)
    · refine lv_aload_n hx hb dX6_judge_23 rfl (lv_at hl 0 rfl) ?_
      refine va_get (D := D) (ci := 6) (C := RX6) (T := TX6) (N := 5) hx hb hW inX6 hown hK hP 0 rfl rfl 1 (by decide) (hW _ (wa tw238 rfl)) (fun _ h9 => h9) rfl dX6_judge_24 ?_
      refine lv_aload_n hx hb dX6_judge_27 rfl (lv_at hl 0 rfl) ?_
      refine va_get (D := D) (ci := 6) (C := RX6) (T := TX6) (N := 5) hx hb hW inX6 hown hK hP 0 rfl rfl 0 (by decide) (hW _ (wa tw237 rfl)) (fun _ h9 => h9) rfl dX6_judge_28 ?_
      refine lv_iload_n hx hb dX6_judge_31 rfl (lv_at hl 1 rfl) ?_
      refine lv_aload_n hx hb dX6_judge_32 rfl (lv_at hl 0 rfl) ?_
      refine va_get (D := D) (ci := 6) (C := RX6) (T := TX6) (N := 5) hx hb hW inX6 hown hK hP 0 rfl rfl 0 (by decide) (hW _ (wa tw237 rfl)) (fun _ h9 => h9) rfl dX6_judge_33 ?_
      refine xri (r := f2_notLost M) (rVN (As := []) (n := 0) (rest := [.int model, .ref (am 0), .ref (af 0)]) ⟨hx, hb, hml, hown, hW⟩ (kX2_notLost l D C am M  ) (wa tw312 rfl) (hNw _ tw405 rfl) (wa tw311 rfl) (was ts5 rfl) (wa tw2 rfl) (by decide +kernel) ⟨Nat.le_of_ble_eq_true rfl, Nat.le_of_ble_eq_true rfl⟩ (pVr (hP.sub [9, 10, 11, 12, 13, 14, 15, 16] rfl) hK hNw 0 rfl rfl) hl.1 rfl (Nat.le_of_ble_eq_true rfl) dX6_judge_36 ⟨Nat.le_of_ble_eq_true rfl, Nat.le_of_ble_eq_true rfl⟩ rfl rfl rfl) ?_
      refine xwi (wr := [((ax 0), .inr (6, [.ref (am 0), .ref (af 0), .ref (ap 0), .ref (ab 0), .ref (ar 0)]))]) (rVN (As := [.ref (am 0), .int model, .int (f2_notLost M)]) (n := 3) (rest := []) ⟨hx, hb, hml, hown, hW⟩ (kX1_make l D C af F fm am M model (f2_notLost M) s.heap.size N hN hN12) (wa tw334 rfl) (hNw _ tw331 rfl) (wa tw333 rfl) (was ts9 rfl) (wa tw3 rfl) (by decide +kernel) ⟨Nat.le_of_ble_eq_true rfl, Nat.le_of_ble_eq_true rfl⟩ (pVw (hP.sub [1, 2, 3, 4, 5, 6, 7, 8, 9, 10, 11, 12, 13, 14, 15, 16] rfl) (hD.sub [1, 2, 3, 4, 5, 6, 7, 8, 9, 10, 11, 12, 13, 14, 15, 16] (by decide) rfl) hK hNw 0 rfl rfl) hl.1 rfl (Nat.le_of_ble_eq_true rfl) dX6_judge_39 ⟨Nat.le_of_ble_eq_true rfl, Nat.le_of_ble_eq_true rfl⟩ rfl rfl rfl) hP hD hS hA [1, 2, 3, 4, 5, 6, 7, 8, 9, 10, 11, 12, 13, 14, 15, 16] [0] rfl rfl (by decide) (by decide) (fun H locs hP hD hS => ?_)
      have hP : va_P D vwCl [((ax 0), .inr (6, [.ref (am 0), .ref (af 0), .ref (ap 0), .ref (ab 0), .ref (ar 0)])), ((af 0), .inr (1, [.ref (af 1), .ref (af 2), .ref (af 5), .int model])), ((af 1), .inr (5, [.long ((f1_make M N model (f2_notLost M) F) 0 0), .long ((f1_make M N model (f2_notLost M) F) 0 1), .long ((f1_make M N model (f2_notLost M) F) 0 2), .long ((f1_make M N model (f2_notLost M) F) 0 3), .long ((f1_make M N model (f2_notLost M) F) 0 4), .long ((f1_make M N model (f2_notLost M) F) 0 5), .long ((f1_make M N model (f2_notLost M) F) 0 6), .long ((f1_make M N model (f2_notLost M) F) 0 7), .long ((f1_make M N model (f2_notLost M) F) 0 8), .long ((f1_make M N model (f2_notLost M) F) 0 9), .long ((f1_make M N model (f2_notLost M) F) 0 10), .long ((f1_make M N model (f2_notLost M) F) 0 11), .long ((f1_make M N model (f2_notLost M) F) 0 12)])), ((af 2), eJJ C 2 (rr af 3 2)), ((af 3), eJ C 4 ((f1_make M N model (f2_notLost M) F) 1)), ((af 4), eJ C 4 ((f1_make M N model (f2_notLost M) F) 2)), ((af 5), eJJ C 2 (rr af 6 2)), ((af 6), eJ C 3 ((f1_make M N model (f2_notLost M) F) 3)), ((af 7), eJ C 3 ((f1_make M N model (f2_notLost M) F) 4)), ((am 0), .inr (2, [.ref (am 1), .ref (am 2), .ref (am 3), .ref (am 4), .ref (am 5), .int (M 6 0), .int (M 6 1), .int (M 6 2)])), ((am 1), eI C 12 (M 0)), ((am 2), eI C 12 (M 1)), ((am 3), eI C 12 (M 2)), ((am 4), eI C 12 (M 3)), ((am 5), eII C 2 (rr am 6 2)), ((am 6), eI C 12 (M 4)), ((am 7), eI C 12 (M 5))] H := hP
      have hD : va_D A [((ax 0), .inr (6, [.ref (am 0), .ref (af 0), .ref (ap 0), .ref (ab 0), .ref (ar 0)])), ((af 0), .inr (1, [.ref (af 1), .ref (af 2), .ref (af 5), .int model])), ((af 1), .inr (5, [.long ((f1_make M N model (f2_notLost M) F) 0 0), .long ((f1_make M N model (f2_notLost M) F) 0 1), .long ((f1_make M N model (f2_notLost M) F) 0 2), .long ((f1_make M N model (f2_notLost M) F) 0 3), .long ((f1_make M N model (f2_notLost M) F) 0 4), .long ((f1_make M N model (f2_notLost M) F) 0 5), .long ((f1_make M N model (f2_notLost M) F) 0 6), .long ((f1_make M N model (f2_notLost M) F) 0 7), .long ((f1_make M N model (f2_notLost M) F) 0 8), .long ((f1_make M N model (f2_notLost M) F) 0 9), .long ((f1_make M N model (f2_notLost M) F) 0 10), .long ((f1_make M N model (f2_notLost M) F) 0 11), .long ((f1_make M N model (f2_notLost M) F) 0 12)])), ((af 2), eJJ C 2 (rr af 3 2)), ((af 3), eJ C 4 ((f1_make M N model (f2_notLost M) F) 1)), ((af 4), eJ C 4 ((f1_make M N model (f2_notLost M) F) 2)), ((af 5), eJJ C 2 (rr af 6 2)), ((af 6), eJ C 3 ((f1_make M N model (f2_notLost M) F) 3)), ((af 7), eJ C 3 ((f1_make M N model (f2_notLost M) F) 4)), ((am 0), .inr (2, [.ref (am 1), .ref (am 2), .ref (am 3), .ref (am 4), .ref (am 5), .int (M 6 0), .int (M 6 1), .int (M 6 2)])), ((am 1), eI C 12 (M 0)), ((am 2), eI C 12 (M 1)), ((am 3), eI C 12 (M 2)), ((am 4), eI C 12 (M 3)), ((am 5), eII C 2 (rr am 6 2)), ((am 6), eI C 12 (M 4)), ((am 7), eI C 12 (M 5))] := hD
      refine lv_if_ne (tgt := 48) hx hb dX6_judge_42 (by decide) (fun c_3 => ?_) (fun c_3 => ?_)
      · refine lv_aload_n hx hb dX6_judge_48 rfl (lv_at hl 0 rfl) ?_
        refine va_get (D := D) (ci := 6) (C := RX6) (T := TX6) (N := 5) hx hb hW inX6 hown hK hP 0 rfl rfl 0 (by decide) (hW _ (wa tw237 rfl)) (fun _ h9 => h9) rfl dX6_judge_49 ?_
        refine lv_aload_n hx hb dX6_judge_52 rfl (lv_at hl 0 rfl) ?_
        refine va_get (D := D) (ci := 6) (C := RX6) (T := TX6) (N := 5) hx hb hW inX6 hown hK hP 0 rfl rfl 1 (by decide) (hW _ (wa tw238 rfl)) (fun _ h9 => h9) rfl dX6_judge_53 ?_
        refine lv_aload_n hx hb dX6_judge_56 rfl (lv_at hl 0 rfl) ?_
        refine va_get (D := D) (ci := 6) (C := RX6) (T := TX6) (N := 5) hx hb hW inX6 hown hK hP 0 rfl rfl 0 (by decide) (hW _ (wa tw237 rfl)) (fun _ h9 => h9) rfl dX6_judge_57 ?_
        refine lv_iload_n hx hb dX6_judge_60 rfl (lv_at hl 1 rfl) ?_
        refine lv_iload_n hx hb dX6_judge_61 rfl (lv_at hl 2 rfl) ?_
        refine xwi (wr := [((ax 0), .inr (6, [.ref (am 0), .ref (af 0), .ref (ap 0), .ref (ab 0), .ref (ar 0)]))]) (rVN (As := [.ref (am 0), .int model, .int limit]) (n := 3) (rest := [.ref (am 0)]) ⟨hx, hb, hml, hown, hW⟩ (kX1_liars l D C af (f1_make M N model (f2_notLost M) F) model am M model limit H.size N hN hN12) (wa tw410 rfl) (hNw _ tw407 rfl) (wa tw409 rfl) (was ts19 rfl) (wa tw3 rfl) (by decide +kernel) ⟨Nat.le_of_ble_eq_true rfl, Nat.le_of_ble_eq_true rfl⟩ (pVw (hP.sub [1, 2, 3, 4, 5, 6, 7, 8, 9, 10, 11, 12, 13, 14, 15, 16] rfl) (hD.sub [1, 2, 3, 4, 5, 6, 7, 8, 9, 10, 11, 12, 13, 14, 15, 16] (by decide) rfl) hK hNw 0 rfl rfl) hl.1 rfl (Nat.le_of_ble_eq_true rfl) dX6_judge_62 ⟨Nat.le_of_ble_eq_true rfl, Nat.le_of_ble_eq_true rfl⟩ rfl rfl rfl) hP hD hS hA [1, 2, 3, 4, 5, 6, 7, 8, 9, 10, 11, 12, 13, 14, 15, 16] [0] rfl rfl (by decide) (by decide) (fun H locs hP hD hS => ?_)
        have hP : va_P D vwCl [((ax 0), .inr (6, [.ref (am 0), .ref (af 0), .ref (ap 0), .ref (ab 0), .ref (ar 0)])), ((af 0), .inr (1, [.ref (af 1), .ref (af 2), .ref (af 5), .int ((f1_liars M N model limit (f1_make M N model (f2_notLost M) F) model).2.2)])), ((af 1), .inr (5, [.long (((f1_liars M N model limit (f1_make M N model (f2_notLost M) F) model).2.1) 0 0), .long (((f1_liars M N model limit (f1_make M N model (f2_notLost M) F) model).2.1) 0 1), .long (((f1_liars M N model limit (f1_make M N model (f2_notLost M) F) model).2.1) 0 2), .long (((f1_liars M N model limit (f1_make M N model (f2_notLost M) F) model).2.1) 0 3), .long (((f1_liars M N model limit (f1_make M N model (f2_notLost M) F) model).2.1) 0 4), .long (((f1_liars M N model limit (f1_make M N model (f2_notLost M) F) model).2.1) 0 5), .long (((f1_liars M N model limit (f1_make M N model (f2_notLost M) F) model).2.1) 0 6), .long (((f1_liars M N model limit (f1_make M N model (f2_notLost M) F) model).2.1) 0 7), .long (((f1_liars M N model limit (f1_make M N model (f2_notLost M) F) model).2.1) 0 8), .long (((f1_liars M N model limit (f1_make M N model (f2_notLost M) F) model).2.1) 0 9), .long (((f1_liars M N model limit (f1_make M N model (f2_notLost M) F) model).2.1) 0 10), .long (((f1_liars M N model limit (f1_make M N model (f2_notLost M) F) model).2.1) 0 11), .long (((f1_liars M N model limit (f1_make M N model (f2_notLost M) F) model).2.1) 0 12)])), ((af 2), eJJ C 2 (rr af 3 2)), ((af 3), eJ C 4 (((f1_liars M N model limit (f1_make M N model (f2_notLost M) F) model).2.1) 1)), ((af 4), eJ C 4 (((f1_liars M N model limit (f1_make M N model (f2_notLost M) F) model).2.1) 2)), ((af 5), eJJ C 2 (rr af 6 2)), ((af 6), eJ C 3 (((f1_liars M N model limit (f1_make M N model (f2_notLost M) F) model).2.1) 3)), ((af 7), eJ C 3 (((f1_liars M N model limit (f1_make M N model (f2_notLost M) F) model).2.1) 4)), ((am 0), .inr (2, [.ref (am 1), .ref (am 2), .ref (am 3), .ref (am 4), .ref (am 5), .int (M 6 0), .int (M 6 1), .int (M 6 2)])), ((am 1), eI C 12 (M 0)), ((am 2), eI C 12 (M 1)), ((am 3), eI C 12 (M 2)), ((am 4), eI C 12 (M 3)), ((am 5), eII C 2 (rr am 6 2)), ((am 6), eI C 12 (M 4)), ((am 7), eI C 12 (M 5))] H := hP
        have hD : va_D A [((ax 0), .inr (6, [.ref (am 0), .ref (af 0), .ref (ap 0), .ref (ab 0), .ref (ar 0)])), ((af 0), .inr (1, [.ref (af 1), .ref (af 2), .ref (af 5), .int ((f1_liars M N model limit (f1_make M N model (f2_notLost M) F) model).2.2)])), ((af 1), .inr (5, [.long (((f1_liars M N model limit (f1_make M N model (f2_notLost M) F) model).2.1) 0 0), .long (((f1_liars M N model limit (f1_make M N model (f2_notLost M) F) model).2.1) 0 1), .long (((f1_liars M N model limit (f1_make M N model (f2_notLost M) F) model).2.1) 0 2), .long (((f1_liars M N model limit (f1_make M N model (f2_notLost M) F) model).2.1) 0 3), .long (((f1_liars M N model limit (f1_make M N model (f2_notLost M) F) model).2.1) 0 4), .long (((f1_liars M N model limit (f1_make M N model (f2_notLost M) F) model).2.1) 0 5), .long (((f1_liars M N model limit (f1_make M N model (f2_notLost M) F) model).2.1) 0 6), .long (((f1_liars M N model limit (f1_make M N model (f2_notLost M) F) model).2.1) 0 7), .long (((f1_liars M N model limit (f1_make M N model (f2_notLost M) F) model).2.1) 0 8), .long (((f1_liars M N model limit (f1_make M N model (f2_notLost M) F) model).2.1) 0 9), .long (((f1_liars M N model limit (f1_make M N model (f2_notLost M) F) model).2.1) 0 10), .long (((f1_liars M N model limit (f1_make M N model (f2_notLost M) F) model).2.1) 0 11), .long (((f1_liars M N model limit (f1_make M N model (f2_notLost M) F) model).2.1) 0 12)])), ((af 2), eJJ C 2 (rr af 3 2)), ((af 3), eJ C 4 (((f1_liars M N model limit (f1_make M N model (f2_notLost M) F) model).2.1) 1)), ((af 4), eJ C 4 (((f1_liars M N model limit (f1_make M N model (f2_notLost M) F) model).2.1) 2)), ((af 5), eJJ C 2 (rr af 6 2)), ((af 6), eJ C 3 (((f1_liars M N model limit (f1_make M N model (f2_notLost M) F) model).2.1) 3)), ((af 7), eJ C 3 (((f1_liars M N model limit (f1_make M N model (f2_notLost M) F) model).2.1) 4)), ((am 0), .inr (2, [.ref (am 1), .ref (am 2), .ref (am 3), .ref (am 4), .ref (am 5), .int (M 6 0), .int (M 6 1), .int (M 6 2)])), ((am 1), eI C 12 (M 0)), ((am 2), eI C 12 (M 1)), ((am 3), eI C 12 (M 2)), ((am 4), eI C 12 (M 3)), ((am 5), eII C 2 (rr am 6 2)), ((am 6), eI C 12 (M 4)), ((am 7), eI C 12 (M 5))] := hD
        refine va_putN (D := D) (v := .int (f2_notLost M &&& ((f1_liars M N model limit (f1_make M N model (f2_notLost M) F) model).1 ^^^ (-1)))) (ty := .int) (host := "FieldAfterField") (ci := 2) (C := RX2) (T := TX2) (N := 8) hx hb hW inX2 tyX2 tyX2_ok nmX2 hown hK hP hD hS 9 rfl rfl 7 (by decide) (va_Nw.use rfl (hNw _ tw46 rfl)) (fun _ h9 => h9) rfl (by decide +kernel) rfl rfl (Nat.le_of_ble_eq_true rfl) dX6_judge_65 (fun H locs hP hD hS => ?_)
        have hP : va_P D vwCl [((ax 0), .inr (6, [.ref (am 0), .ref (af 0), .ref (ap 0), .ref (ab 0), .ref (ar 0)])), ((af 0), .inr (1, [.ref (af 1), .ref (af 2), .ref (af 5), .int ((f1_liars M N model limit (f1_make M N model (f2_notLost M) F) model).2.2)])), ((af 1), .inr (5, [.long (((f1_liars M N model limit (f1_make M N model (f2_notLost M) F) model).2.1) 0 0), .long (((f1_liars M N model limit (f1_make M N model (f2_notLost M) F) model).2.1) 0 1), .long (((f1_liars M N model limit (f1_make M N model (f2_notLost M) F) model).2.1) 0 2), .long (((f1_liars M N model limit (f1_make M N model (f2_notLost M) F) model).2.1) 0 3), .long (((f1_liars M N model limit (f1_make M N model (f2_notLost M) F) model).2.1) 0 4), .long (((f1_liars M N model limit (f1_make M N model (f2_notLost M) F) model).2.1) 0 5), .long (((f1_liars M N model limit (f1_make M N model (f2_notLost M) F) model).2.1) 0 6), .long (((f1_liars M N model limit (f1_make M N model (f2_notLost M) F) model).2.1) 0 7), .long (((f1_liars M N model limit (f1_make M N model (f2_notLost M) F) model).2.1) 0 8), .long (((f1_liars M N model limit (f1_make M N model (f2_notLost M) F) model).2.1) 0 9), .long (((f1_liars M N model limit (f1_make M N model (f2_notLost M) F) model).2.1) 0 10), .long (((f1_liars M N model limit (f1_make M N model (f2_notLost M) F) model).2.1) 0 11), .long (((f1_liars M N model limit (f1_make M N model (f2_notLost M) F) model).2.1) 0 12)])), ((af 2), eJJ C 2 (rr af 3 2)), ((af 3), eJ C 4 (((f1_liars M N model limit (f1_make M N model (f2_notLost M) F) model).2.1) 1)), ((af 4), eJ C 4 (((f1_liars M N model limit (f1_make M N model (f2_notLost M) F) model).2.1) 2)), ((af 5), eJJ C 2 (rr af 6 2)), ((af 6), eJ C 3 (((f1_liars M N model limit (f1_make M N model (f2_notLost M) F) model).2.1) 3)), ((af 7), eJ C 3 (((f1_liars M N model limit (f1_make M N model (f2_notLost M) F) model).2.1) 4)), ((am 0), .inr (2, [.ref (am 1), .ref (am 2), .ref (am 3), .ref (am 4), .ref (am 5), .int (M 6 0), .int (M 6 1), .int (f2_notLost M &&& ((f1_liars M N model limit (f1_make M N model (f2_notLost M) F) model).1 ^^^ (-1)))])), ((am 1), eI C 12 (M 0)), ((am 2), eI C 12 (M 1)), ((am 3), eI C 12 (M 2)), ((am 4), eI C 12 (M 3)), ((am 5), eII C 2 (rr am 6 2)), ((am 6), eI C 12 (M 4)), ((am 7), eI C 12 (M 5))] H := hP
        have hD : va_D A [((ax 0), .inr (6, [.ref (am 0), .ref (af 0), .ref (ap 0), .ref (ab 0), .ref (ar 0)])), ((af 0), .inr (1, [.ref (af 1), .ref (af 2), .ref (af 5), .int ((f1_liars M N model limit (f1_make M N model (f2_notLost M) F) model).2.2)])), ((af 1), .inr (5, [.long (((f1_liars M N model limit (f1_make M N model (f2_notLost M) F) model).2.1) 0 0), .long (((f1_liars M N model limit (f1_make M N model (f2_notLost M) F) model).2.1) 0 1), .long (((f1_liars M N model limit (f1_make M N model (f2_notLost M) F) model).2.1) 0 2), .long (((f1_liars M N model limit (f1_make M N model (f2_notLost M) F) model).2.1) 0 3), .long (((f1_liars M N model limit (f1_make M N model (f2_notLost M) F) model).2.1) 0 4), .long (((f1_liars M N model limit (f1_make M N model (f2_notLost M) F) model).2.1) 0 5), .long (((f1_liars M N model limit (f1_make M N model (f2_notLost M) F) model).2.1) 0 6), .long (((f1_liars M N model limit (f1_make M N model (f2_notLost M) F) model).2.1) 0 7), .long (((f1_liars M N model limit (f1_make M N model (f2_notLost M) F) model).2.1) 0 8), .long (((f1_liars M N model limit (f1_make M N model (f2_notLost M) F) model).2.1) 0 9), .long (((f1_liars M N model limit (f1_make M N model (f2_notLost M) F) model).2.1) 0 10), .long (((f1_liars M N model limit (f1_make M N model (f2_notLost M) F) model).2.1) 0 11), .long (((f1_liars M N model limit (f1_make M N model (f2_notLost M) F) model).2.1) 0 12)])), ((af 2), eJJ C 2 (rr af 3 2)), ((af 3), eJ C 4 (((f1_liars M N model limit (f1_make M N model (f2_notLost M) F) model).2.1) 1)), ((af 4), eJ C 4 (((f1_liars M N model limit (f1_make M N model (f2_notLost M) F) model).2.1) 2)), ((af 5), eJJ C 2 (rr af 6 2)), ((af 6), eJ C 3 (((f1_liars M N model limit (f1_make M N model (f2_notLost M) F) model).2.1) 3)), ((af 7), eJ C 3 (((f1_liars M N model limit (f1_make M N model (f2_notLost M) F) model).2.1) 4)), ((am 0), .inr (2, [.ref (am 1), .ref (am 2), .ref (am 3), .ref (am 4), .ref (am 5), .int (M 6 0), .int (M 6 1), .int (f2_notLost M &&& ((f1_liars M N model limit (f1_make M N model (f2_notLost M) F) model).1 ^^^ (-1)))])), ((am 1), eI C 12 (M 0)), ((am 2), eI C 12 (M 1)), ((am 3), eI C 12 (M 2)), ((am 4), eI C 12 (M 3)), ((am 5), eII C 2 (rr am 6 2)), ((am 6), eI C 12 (M 4)), ((am 7), eI C 12 (M 5))] := hD
        refine lv_aload_n hx hb dX6_judge_68 rfl (lv_at hl 0 rfl) ?_
        refine va_get (D := D) (ci := 6) (C := RX6) (T := TX6) (N := 5) hx hb hW inX6 hown hK hP 0 rfl rfl 0 (by decide) (hW _ (wa tw237 rfl)) (fun _ h9 => h9) rfl dX6_judge_69 ?_
        refine va_getN (D := D) (host := "FieldAfterField") (ci := 2) (C := RX2) (T := TX2) (N := 8) hx hb hW inX2 hown hK hP 9 rfl rfl 7 (by decide) (va_Nw.use rfl (hNw _ tw46 rfl)) (fun _ h9 => h9) rfl dX6_judge_72 ?_
        refine xri (r := bitC (f2_notLost M &&& ((f1_liars M N model limit (f1_make M N model (f2_notLost M) F) model).1 ^^^ (-1)))) (rS (As := [.int (f2_notLost M &&& ((f1_liars M N model limit (f1_make M N model (f2_notLost M) F) model).1 ^^^ (-1)))]) (n := 1) (rest := []) ⟨hx, hb, hml, hown, hW⟩ (kJ6_bitCount_0f7a4 l (f2_notLost M &&& ((f1_liars M N model limit (f1_make M N model (f2_notLost M) F) model).1 ^^^ (-1)))) (wa tw301 rfl) (wa tw299 rfl) (wa tw300 rfl) (wa tw9 rfl) (by decide +kernel) ⟨Nat.le_of_ble_eq_true rfl, Nat.le_of_ble_eq_true rfl⟩ pS0 hl.1 rfl (Nat.le_of_ble_eq_true rfl) dX6_judge_75 ⟨Nat.le_of_ble_eq_true rfl, Nat.le_of_ble_eq_true rfl⟩ rfl rfl rfl) ?_
        have hb_0 : (f6_judge_F M F fm N model limit) = (f1_liars M N model limit (f1_make M N model (f2_notLost M) F) model).2.1 := (by simp only [f6_judge, f6_judge_F, f6_judge_fm, f6_judge_M, if_pos c_1, if_pos c_2, if_neg c_3])
        have hb_1 : (f6_judge_fm M F fm N model limit) = (f1_liars M N model limit (f1_make M N model (f2_notLost M) F) model).2.2 := (by simp only [f6_judge, f6_judge_F, f6_judge_fm, f6_judge_M, if_pos c_1, if_pos c_2, if_neg c_3])
        have hb_2 : (f6_judge_M M F fm N model limit) = uM M 6 (upd (M 6) 2 (f2_notLost M &&& ((f1_liars M N model limit (f1_make M N model (f2_notLost M) F) model).1 ^^^ (-1)))) := (by simp only [f6_judge, f6_judge_F, f6_judge_fm, f6_judge_M, if_pos c_1, if_pos c_2, if_neg c_3])
        have hP9 : va_P D vwCl (((wX ax am af ap ab ar) ++ (wF af C (f6_judge_F M F fm N model limit) (f6_judge_fm M F fm N model limit)) ++ (wM am C (f6_judge_M M F fm N model limit)))) H := by rw [hb_0, hb_1, hb_2]; exact hP
        have hD9 : va_D A (((wX ax am af ap ab ar) ++ (wF af C (f6_judge_F M F fm N model limit) (f6_judge_fm M F fm N model limit)) ++ (wM am C (f6_judge_M M F fm N model limit)))) := by rw [hb_0, hb_1, hb_2]; exact hD
        exact W.iret (v := bitC (f2_notLost M &&& ((f1_liars M N model limit (f1_make M N model (f2_notLost M) F) model).1 ^^^ (-1)))) hx hb hr (fun t ht _ => ⟨⟨_, (), rfl, (by simp only [f6_judge, f6_judge_F, f6_judge_fm, f6_judge_M, if_pos c_1, if_pos c_2, if_neg c_3]), ⟨by rw [ht]; exact hP9, by rw [hAe]; exact hD9⟩⟩, hS.F ht⟩) hS.2.2 dX6_judge_78
      · refine lv_ldc hx hb hown (hW _ (wa tw406 rfl)) dX6_judge_45 ?_
        have hb_0 : (f6_judge_F M F fm N model limit) = f1_make M N model (f2_notLost M) F := (by simp only [f6_judge, f6_judge_F, f6_judge_fm, f6_judge_M, if_pos c_1, if_pos c_2, if_pos c_3])
        have hb_1 : (f6_judge_fm M F fm N model limit) = model := (by simp only [f6_judge, f6_judge_F, f6_judge_fm, f6_judge_M, if_pos c_1, if_pos c_2, if_pos c_3])
        have hb_2 : (f6_judge_M M F fm N model limit) = M := (by simp only [f6_judge, f6_judge_F, f6_judge_fm, f6_judge_M, if_pos c_1, if_pos c_2, if_pos c_3])
        have hP9 : va_P D vwCl (((wX ax am af ap ab ar) ++ (wF af C (f6_judge_F M F fm N model limit) (f6_judge_fm M F fm N model limit)) ++ (wM am C (f6_judge_M M F fm N model limit)))) H := by rw [hb_0, hb_1, hb_2]; exact hP
        have hD9 : va_D A (((wX ax am af ap ab ar) ++ (wF af C (f6_judge_F M F fm N model limit) (f6_judge_fm M F fm N model limit)) ++ (wM am C (f6_judge_M M F fm N model limit)))) := by rw [hb_0, hb_1, hb_2]; exact hD
        exact W.iret (v := (-100003)) hx hb hr (fun t ht _ => ⟨⟨_, (), rfl, (by simp only [f6_judge, f6_judge_F, f6_judge_fm, f6_judge_M, if_pos c_1, if_pos c_2, if_pos c_3]), ⟨by rw [ht]; exact hP9, by rw [hAe]; exact hD9⟩⟩, hS.F ht⟩) hS.2.2 dX6_judge_47
    · refine lv_ldc hx hb hown (hW _ (wa tw260 rfl)) dX6_judge_20 ?_
      have hb_0 : (f6_judge_F M F fm N model limit) = F := (by simp only [f6_judge, f6_judge_F, f6_judge_fm, f6_judge_M, if_pos c_1, if_neg c_2])
      have hb_1 : (f6_judge_fm M F fm N model limit) = fm := (by simp only [f6_judge, f6_judge_F, f6_judge_fm, f6_judge_M, if_pos c_1, if_neg c_2])
      have hb_2 : (f6_judge_M M F fm N model limit) = M := (by simp only [f6_judge, f6_judge_F, f6_judge_fm, f6_judge_M, if_pos c_1, if_neg c_2])
      have hP9 : va_P D vwCl (((wX ax am af ap ab ar) ++ (wF af C (f6_judge_F M F fm N model limit) (f6_judge_fm M F fm N model limit)) ++ (wM am C (f6_judge_M M F fm N model limit)))) s.heap := by rw [hb_0, hb_1, hb_2]; exact hP
      have hD9 : va_D A (((wX ax am af ap ab ar) ++ (wF af C (f6_judge_F M F fm N model limit) (f6_judge_fm M F fm N model limit)) ++ (wM am C (f6_judge_M M F fm N model limit)))) := by rw [hb_0, hb_1, hb_2]; exact hD
      exact W.iret (v := (-100002)) hx hb hr (fun t ht _ => ⟨⟨_, (), rfl, (by simp only [f6_judge, f6_judge_F, f6_judge_fm, f6_judge_M, if_pos c_1, if_neg c_2]), ⟨by rw [ht]; exact hP9, by rw [hAe]; exact hD9⟩⟩, hS.F ht⟩) hS.2.2 dX6_judge_22

def f6_bad (M : Nat → Nat → Int32) (F : Nat → Nat → Int64) (fm : Int32) (N : Nat) (model limit what : Int32) : Int32 := (if (f6_outside model 0 2) = 0 then (if (f6_outside limit 0 999) = 0 then (if (f6_outside what 0 2) = 0 then (if (f1_ok (f1_make M N model (f2_counting M) F)) = 0 then ((-100003)) else (if what = 0 then (bitC (f1_above (f1_make M N model (f2_counting M) F) M model N (f2_counting M) limit)) else (if what = 1 then (f2_fieldsOf M N (f1_above (f1_make M N model (f2_counting M) F) M model N (f2_counting M) limit)) else (if (2 * (f2_fieldsOf M N (f1_above (f1_make M N model (f2_counting M) F) M model N (f2_counting M) limit))) ≤ (f2_fieldsOf M N (f2_counting M)) then (0) else (1))))) else ((-100002))) else ((-100002))) else ((-100002)))
def f6_bad_F (M : Nat → Nat → Int32) (F : Nat → Nat → Int64) (fm : Int32) (N : Nat) (model limit what : Int32) : Nat → Nat → Int64 := (if (f6_outside model 0 2) = 0 then (if (f6_outside limit 0 999) = 0 then (if (f6_outside what 0 2) = 0 then (f1_make M N model (f2_counting M) F) else (F)) else (F)) else (F))
def f6_bad_fm (M : Nat → Nat → Int32) (F : Nat → Nat → Int64) (fm : Int32) (N : Nat) (model limit what : Int32) : Int32 := (if (f6_outside model 0 2) = 0 then (if (f6_outside limit 0 999) = 0 then (if (f6_outside what 0 2) = 0 then (model) else (fm)) else (fm)) else (fm))
set_option maxHeartbeats 4000000 in
set_option maxRecDepth 100000 in
theorem kX6_bad (l : Launch) (D : va_G) (C : Nat → ClassId) (ax am af ap ab ar : Nat → Nat) (F : Nat → Nat → Int64) (fm : Int32) (M : Nat → Nat → Int32) (model limit what : Int32) (sz : Nat) (N : Nat) (hN : M 6 0 = nI N) (hN12 : N ≤ 12) : Wi l D C yX6_bad cX6_bad 7 .int 4 [.ref (ax 0), .int model, .int limit, .int what] ((wX ax am af ap ab ar) ++ (wF af C F fm) ++ (wM am C M)) (((wX ax am af ap ab ar) ++ (wF af C (f6_bad_F M F fm N model limit what) (f6_bad_fm M F fm N model limit what)) ++ (wM am C M))) (f6_bad M F fm N model limit what) sz := by
  refine Met.ofW (cc := cX6_bad) (maxL := 7) (ret := (some .int)) (by decide) rfl ?_
  intro p e s m args below meth c s₁ B hml hv
  obtain ⟨rfl, hsz, hP, hK, hNw, hD0⟩ := hv
  have hx := B.exec
  have hb := B.bytes
  have hr := B.returns
  have hts := atoms_spec (ws := wm yX6_bad cX6_bad 7 (some .int)) B.pre
  have hown : s.vm.findClass RX6 = some m.cls := findClass_of_methodNamed B.named
  have hlocks := B.notSynchronized
  have hW : ∀ w ∈ WA, w.before _ s = true := fun w h => hts w (List.mem_cons_of_mem _ h)
  subst hsz
  have hD := hD0.self (sz := s.heap.size)
  generalize hAe : va_A ((wX ax am af ap ab ar) ++ (wF af C F fm) ++ (wM am C M)) s.heap.size = A at hD ⊢
  have hA : ∀ q : Nat, s.heap.size ≤ q → A q := fun q h => by rw [← hAe]; exact Or.inr h
  have hS : va_S A s.heap s.heap [] := va_S.rf
  have hP : va_P D vwCl [((ax 0), .inr (6, [.ref (am 0), .ref (af 0), .ref (ap 0), .ref (ab 0), .ref (ar 0)])), ((af 0), .inr (1, [.ref (af 1), .ref (af 2), .ref (af 5), .int fm])), ((af 1), .inr (5, [.long (F 0 0), .long (F 0 1), .long (F 0 2), .long (F 0 3), .long (F 0 4), .long (F 0 5), .long (F 0 6), .long (F 0 7), .long (F 0 8), .long (F 0 9), .long (F 0 10), .long (F 0 11), .long (F 0 12)])), ((af 2), eJJ C 2 (rr af 3 2)), ((af 3), eJ C 4 (F 1)), ((af 4), eJ C 4 (F 2)), ((af 5), eJJ C 2 (rr af 6 2)), ((af 6), eJ C 3 (F 3)), ((af 7), eJ C 3 (F 4)), ((am 0), .inr (2, [.ref (am 1), .ref (am 2), .ref (am 3), .ref (am 4), .ref (am 5), .int (M 6 0), .int (M 6 1), .int (M 6 2)])), ((am 1), eI C 12 (M 0)), ((am 2), eI C 12 (M 1)), ((am 3), eI C 12 (M 2)), ((am 4), eI C 12 (M 3)), ((am 5), eII C 2 (rr am 6 2)), ((am 6), eI C 12 (M 4)), ((am 7), eI C 12 (M 5))] s.heap := hP
  have hD : va_D A [((ax 0), .inr (6, [.ref (am 0), .ref (af 0), .ref (ap 0), .ref (ab 0), .ref (ar 0)])), ((af 0), .inr (1, [.ref (af 1), .ref (af 2), .ref (af 5), .int fm])), ((af 1), .inr (5, [.long (F 0 0), .long (F 0 1), .long (F 0 2), .long (F 0 3), .long (F 0 4), .long (F 0 5), .long (F 0 6), .long (F 0 7), .long (F 0 8), .long (F 0 9), .long (F 0 10), .long (F 0 11), .long (F 0 12)])), ((af 2), eJJ C 2 (rr af 3 2)), ((af 3), eJ C 4 (F 1)), ((af 4), eJ C 4 (F 2)), ((af 5), eJJ C 2 (rr af 6 2)), ((af 6), eJ C 3 (F 3)), ((af 7), eJ C 3 (F 4)), ((am 0), .inr (2, [.ref (am 1), .ref (am 2), .ref (am 3), .ref (am 4), .ref (am 5), .int (M 6 0), .int (M 6 1), .int (M 6 2)])), ((am 1), eI C 12 (M 0)), ((am 2), eI C 12 (M 1)), ((am 3), eI C 12 (M 2)), ((am 4), eI C 12 (M 3)), ((am 5), eII C 2 (rr am 6 2)), ((am 6), eI C 12 (M 4)), ((am 7), eI C 12 (M 5))] := hD
  have hl := lv_entry ([.ref (ax 0), .int model, .int limit, .int what]) (n := 7) (Nat.le_of_ble_eq_true rfl)
  rw [lg_entry_eq]
  generalize (lg_sl ([.ref (ax 0), .int model, .int limit, .int what]) ++ List.replicate (7 - (lg_sl ([.ref (ax 0), .int model, .int limit, .int what])).length) Slot.unset).toArray = ls at hl ⊢
  have hl : lv_has ls 7 [(0, .ref (ax 0)), (1, .int model), (2, .int limit), (3, .int what)] := hl
  refine lv_iload_n hx hb dX6_bad_0 rfl (lv_at hl 1 rfl) ?_
  refine lv_iconst (v := 0) hx hb dX6_bad_1 (by decide) ?_
  refine lv_iconst (v := 2) hx hb dX6_bad_2 (by decide) ?_
  refine xri (r := f6_outside model 0 2) (rS (As := [.int model, .int 0, .int 2]) (n := 3) (rest := []) ⟨hx, hb, hml, hown, hW⟩ (kX6_outside l model 0 2) (wa tw259 rfl) (wa tw257 rfl) (wa tw258 rfl) (wa tw1 rfl) (by decide +kernel) ⟨Nat.le_of_ble_eq_true rfl, Nat.le_of_ble_eq_true rfl⟩ pS0 hl.1 rfl (Nat.le_of_ble_eq_true rfl) dX6_bad_3 ⟨Nat.le_of_ble_eq_true rfl, Nat.le_of_ble_eq_true rfl⟩ rfl rfl rfl) ?_
  refine lv_if_ne (tgt := 29) hx hb dX6_bad_6 (by decide) (fun c_1 => ?_) (fun c_1 => ?_)
  · refine lv_ldc hx hb hown (hW _ (wa tw260 rfl)) dX6_bad_29 ?_
    have hb_0 : (f6_bad_F M F fm N model limit what) = F := (by simp only [f6_bad, f6_bad_F, f6_bad_fm, if_neg c_1])
    have hb_1 : (f6_bad_fm M F fm N model limit what) = fm := (by simp only [f6_bad, f6_bad_F, f6_bad_fm, if_neg c_1])
    have hP9 : va_P D vwCl (((wX ax am af ap ab ar) ++ (wF af C (f6_bad_F M F fm N model limit what) (f6_bad_fm M F fm N model limit what)) ++ (wM am C M))) s.heap := by rw [hb_0, hb_1]; exact hP
    have hD9 : va_D A (((wX ax am af ap ab ar) ++ (wF af C (f6_bad_F M F fm N model limit what) (f6_bad_fm M F fm N model limit what)) ++ (wM am C M))) := by rw [hb_0, hb_1]; exact hD
    exact W.iret (v := (-100002)) hx hb hr (fun t ht _ => ⟨⟨_, (), rfl, (by simp only [f6_bad, f6_bad_F, f6_bad_fm, if_neg c_1]), ⟨by rw [ht]; exact hP9, by rw [hAe]; exact hD9⟩⟩, hS.F ht⟩) hS.2.2 dX6_bad_31
  · refine lv_iload_n hx hb dX6_bad_9 rfl (lv_at hl 2 rfl) ?_
    refine lv_iconst (v := 0) hx hb dX6_bad_10 (by decide) ?_
    refine lv_sipush (v := 999) hx hb dX6_bad_11 (by decide) ?_
    refine xri (r := f6_outside limit 0 999) (rS (As := [.int limit, .int 0, .int 999]) (n := 3) (rest := []) ⟨hx, hb, hml, hown, hW⟩ (kX6_outside l limit 0 999) (wa tw259 rfl) (wa tw257 rfl) (wa tw258 rfl) (wa tw1 rfl) (by decide +kernel) ⟨Nat.le_of_ble_eq_true rfl, Nat.le_of_ble_eq_true rfl⟩ pS0 hl.1 rfl (Nat.le_of_ble_eq_true rfl) dX6_bad_14 ⟨Nat.le_of_ble_eq_true rfl, Nat.le_of_ble_eq_true rfl⟩ rfl rfl rfl) ?_
    refine lv_if_ne (tgt := 29) hx hb dX6_bad_17 (by decide) (fun c_2 => ?_) (fun c_2 => ?_)
    · refine lv_ldc hx hb hown (hW _ (wa tw260 rfl)) dX6_bad_29 ?_
      have hb_0 : (f6_bad_F M F fm N model limit what) = F := (by simp only [f6_bad, f6_bad_F, f6_bad_fm, if_pos c_1, if_neg c_2])
      have hb_1 : (f6_bad_fm M F fm N model limit what) = fm := (by simp only [f6_bad, f6_bad_F, f6_bad_fm, if_pos c_1, if_neg c_2])
      have hP9 : va_P D vwCl (((wX ax am af ap ab ar) ++ (wF af C (f6_bad_F M F fm N model limit what) (f6_bad_fm M F fm N model limit what)) ++ (wM am C M))) s.heap := by rw [hb_0, hb_1]; exact hP
      have hD9 : va_D A (((wX ax am af ap ab ar) ++ (wF af C (f6_bad_F M F fm N model limit what) (f6_bad_fm M F fm N model limit what)) ++ (wM am C M))) := by rw [hb_0, hb_1]; exact hD
      exact W.iret (v := (-100002)) hx hb hr (fun t ht _ => ⟨⟨_, (), rfl, (by simp only [f6_bad, f6_bad_F, f6_bad_fm, if_pos c_1, if_neg c_2]), ⟨by rw [ht]; exact hP9, by rw [hAe]; exact hD9⟩⟩, hS.F ht⟩) hS.2.2 dX6_bad_31
    · refine lv_iload_n hx hb dX6_bad_20 rfl (lv_at hl 3 rfl) ?_
      refine lv_iconst (v := 0) hx hb dX6_bad_21 (by decide) ?_
      refine lv_iconst (v := 2) hx hb dX6_bad_22 (by decide) ?_
      refine xri (r := f6_outside what 0 2) (rS (As := [.int what, .int 0, .int 2]) (n := 3) (rest := []) ⟨hx, hb, hml, hown, hW⟩ (kX6_outside l what 0 2) (wa tw259 rfl) (wa tw257 rfl) (wa tw258 rfl) (wa tw1 rfl) (by decide +kernel) ⟨Nat.le_of_ble_eq_true rfl, Nat.le_of_ble_eq_true rfl⟩ pS0 hl.1 rfl (Nat.le_of_ble_eq_true rfl) dX6_bad_23 ⟨Nat.le_of_ble_eq_true rfl, Nat.le_of_ble_eq_true rfl⟩ rfl rfl rfl) ?_
      refine lv_if_eq (tgt := 32) hx hb dX6_bad_26 (by decide) (fun c_3 => ?_) (fun c_3 => ?_)
      · refine lv_aload_n hx hb dX6_bad_32 rfl (lv_at hl 0 rfl) ?_
        refine va_get (D := D) (ci := 6) (C := RX6) (T := TX6) (N := 5) hx hb hW inX6 hown hK hP 0 rfl rfl 0 (by decide) (hW _ (wa tw237 rfl)) (fun _ h9 => h9) rfl dX6_bad_33 ?_
        refine xri (r := f2_counting M) (rVN (As := []) (n := 0) (rest := []) ⟨hx, hb, hml, hown, hW⟩ (kX2_counting l D C am M  ) (wa tw308 rfl) (hNw _ tw305 rfl) (wa tw307 rfl) (was ts4 rfl) (wa tw2 rfl) (by decide +kernel) ⟨Nat.le_of_ble_eq_true rfl, Nat.le_of_ble_eq_true rfl⟩ (pVr (hP.sub [9, 10, 11, 12, 13, 14, 15, 16] rfl) hK hNw 0 rfl rfl) hl.1 rfl (Nat.le_of_ble_eq_true rfl) dX6_bad_36 ⟨Nat.le_of_ble_eq_true rfl, Nat.le_of_ble_eq_true rfl⟩ rfl rfl rfl) ?_
        refine lv_istore (lv' := [(4, .int (f2_counting M)), (0, .ref (ax 0)), (1, .int model), (2, .int limit), (3, .int what)]) hx hb dX6_bad_39 hl (by decide) rfl (fun ls hl => ?_)
        refine lv_aload_n hx hb dX6_bad_41 rfl (lv_at hl 1 rfl) ?_
        refine va_get (D := D) (ci := 6) (C := RX6) (T := TX6) (N := 5) hx hb hW inX6 hown hK hP 0 rfl rfl 1 (by decide) (hW _ (wa tw238 rfl)) (fun _ h9 => h9) rfl dX6_bad_42 ?_
        refine lv_aload_n hx hb dX6_bad_45 rfl (lv_at hl 1 rfl) ?_
        refine va_get (D := D) (ci := 6) (C := RX6) (T := TX6) (N := 5) hx hb hW inX6 hown hK hP 0 rfl rfl 0 (by decide) (hW _ (wa tw237 rfl)) (fun _ h9 => h9) rfl dX6_bad_46 ?_
        refine lv_iload_n hx hb dX6_bad_49 rfl (lv_at hl 2 rfl) ?_
        refine lv_iload hx hb dX6_bad_50 (lv_at hl 0 rfl) ?_
        refine xwi (wr := [((ax 0), .inr (6, [.ref (am 0), .ref (af 0), .ref (ap 0), .ref (ab 0), .ref (ar 0)]))]) (rVN (As := [.ref (am 0), .int model, .int (f2_counting M)]) (n := 3) (rest := []) ⟨hx, hb, hml, hown, hW⟩ (kX1_make l D C af F fm am M model (f2_counting M) s.heap.size N hN hN12) (wa tw334 rfl) (hNw _ tw331 rfl) (wa tw333 rfl) (was ts9 rfl) (wa tw3 rfl) (by decide +kernel) ⟨Nat.le_of_ble_eq_true rfl, Nat.le_of_ble_eq_true rfl⟩ (pVw (hP.sub [1, 2, 3, 4, 5, 6, 7, 8, 9, 10, 11, 12, 13, 14, 15, 16] rfl) (hD.sub [1, 2, 3, 4, 5, 6, 7, 8, 9, 10, 11, 12, 13, 14, 15, 16] (by decide) rfl) hK hNw 0 rfl rfl) hl.1 rfl (Nat.le_of_ble_eq_true rfl) dX6_bad_52 ⟨Nat.le_of_ble_eq_true rfl, Nat.le_of_ble_eq_true rfl⟩ rfl rfl rfl) hP hD hS hA [1, 2, 3, 4, 5, 6, 7, 8, 9, 10, 11, 12, 13, 14, 15, 16] [0] rfl rfl (by decide) (by decide) (fun H locs hP hD hS => ?_)
        have hP : va_P D vwCl [((ax 0), .inr (6, [.ref (am 0), .ref (af 0), .ref (ap 0), .ref (ab 0), .ref (ar 0)])), ((af 0), .inr (1, [.ref (af 1), .ref (af 2), .ref (af 5), .int model])), ((af 1), .inr (5, [.long ((f1_make M N model (f2_counting M) F) 0 0), .long ((f1_make M N model (f2_counting M) F) 0 1), .long ((f1_make M N model (f2_counting M) F) 0 2), .long ((f1_make M N model (f2_counting M) F) 0 3), .long ((f1_make M N model (f2_counting M) F) 0 4), .long ((f1_make M N model (f2_counting M) F) 0 5), .long ((f1_make M N model (f2_counting M) F) 0 6), .long ((f1_make M N model (f2_counting M) F) 0 7), .long ((f1_make M N model (f2_counting M) F) 0 8), .long ((f1_make M N model (f2_counting M) F) 0 9), .long ((f1_make M N model (f2_counting M) F) 0 10), .long ((f1_make M N model (f2_counting M) F) 0 11), .long ((f1_make M N model (f2_counting M) F) 0 12)])), ((af 2), eJJ C 2 (rr af 3 2)), ((af 3), eJ C 4 ((f1_make M N model (f2_counting M) F) 1)), ((af 4), eJ C 4 ((f1_make M N model (f2_counting M) F) 2)), ((af 5), eJJ C 2 (rr af 6 2)), ((af 6), eJ C 3 ((f1_make M N model (f2_counting M) F) 3)), ((af 7), eJ C 3 ((f1_make M N model (f2_counting M) F) 4)), ((am 0), .inr (2, [.ref (am 1), .ref (am 2), .ref (am 3), .ref (am 4), .ref (am 5), .int (M 6 0), .int (M 6 1), .int (M 6 2)])), ((am 1), eI C 12 (M 0)), ((am 2), eI C 12 (M 1)), ((am 3), eI C 12 (M 2)), ((am 4), eI C 12 (M 3)), ((am 5), eII C 2 (rr am 6 2)), ((am 6), eI C 12 (M 4)), ((am 7), eI C 12 (M 5))] H := hP
        have hD : va_D A [((ax 0), .inr (6, [.ref (am 0), .ref (af 0), .ref (ap 0), .ref (ab 0), .ref (ar 0)])), ((af 0), .inr (1, [.ref (af 1), .ref (af 2), .ref (af 5), .int model])), ((af 1), .inr (5, [.long ((f1_make M N model (f2_counting M) F) 0 0), .long ((f1_make M N model (f2_counting M) F) 0 1), .long ((f1_make M N model (f2_counting M) F) 0 2), .long ((f1_make M N model (f2_counting M) F) 0 3), .long ((f1_make M N model (f2_counting M) F) 0 4), .long ((f1_make M N model (f2_counting M) F) 0 5), .long ((f1_make M N model (f2_counting M) F) 0 6), .long ((f1_make M N model (f2_counting M) F) 0 7), .long ((f1_make M N model (f2_counting M) F) 0 8), .long ((f1_make M N model (f2_counting M) F) 0 9), .long ((f1_make M N model (f2_counting M) F) 0 10), .long ((f1_make M N model (f2_counting M) F) 0 11), .long ((f1_make M N model (f2_counting M) F) 0 12)])), ((af 2), eJJ C 2 (rr af 3 2)), ((af 3), eJ C 4 ((f1_make M N model (f2_counting M) F) 1)), ((af 4), eJ C 4 ((f1_make M N model (f2_counting M) F) 2)), ((af 5), eJJ C 2 (rr af 6 2)), ((af 6), eJ C 3 ((f1_make M N model (f2_counting M) F) 3)), ((af 7), eJ C 3 ((f1_make M N model (f2_counting M) F) 4)), ((am 0), .inr (2, [.ref (am 1), .ref (am 2), .ref (am 3), .ref (am 4), .ref (am 5), .int (M 6 0), .int (M 6 1), .int (M 6 2)])), ((am 1), eI C 12 (M 0)), ((am 2), eI C 12 (M 1)), ((am 3), eI C 12 (M 2)), ((am 4), eI C 12 (M 3)), ((am 5), eII C 2 (rr am 6 2)), ((am 6), eI C 12 (M 4)), ((am 7), eI C 12 (M 5))] := hD
        refine lv_if_ne (tgt := 61) hx hb dX6_bad_55 (by decide) (fun c_4 => ?_) (fun c_4 => ?_)
        · refine lv_aload_n hx hb dX6_bad_61 rfl (lv_at hl 1 rfl) ?_
          refine va_get (D := D) (ci := 6) (C := RX6) (T := TX6) (N := 5) hx hb hW inX6 hown hK hP 0 rfl rfl 1 (by decide) (hW _ (wa tw238 rfl)) (fun _ h9 => h9) rfl dX6_bad_62 ?_
          refine lv_aload_n hx hb dX6_bad_65 rfl (lv_at hl 1 rfl) ?_
          refine va_get (D := D) (ci := 6) (C := RX6) (T := TX6) (N := 5) hx hb hW inX6 hown hK hP 0 rfl rfl 0 (by decide) (hW _ (wa tw237 rfl)) (fun _ h9 => h9) rfl dX6_bad_66 ?_
          refine lv_iload hx hb dX6_bad_69 (lv_at hl 0 rfl) ?_
          refine lv_iload_n hx hb dX6_bad_71 rfl (lv_at hl 3 rfl) ?_
          refine xri (r := f1_above (f1_make M N model (f2_counting M) F) M model N (f2_counting M) limit) (rVN (As := [.ref (am 0), .int (f2_counting M), .int limit]) (n := 3) (rest := []) ⟨hx, hb, hml, hown, hW⟩ (kX1_above l D C af (f1_make M N model (f2_counting M) F) model am M (f2_counting M) limit N hN hN12) (wa tw416 rfl) (hNw _ tw543 rfl) (wa tw415 rfl) (was ts20 rfl) (wa tw3 rfl) (by decide +kernel) ⟨Nat.le_of_ble_eq_true rfl, Nat.le_of_ble_eq_true rfl⟩ (pVr (hP.sub [1, 2, 3, 4, 5, 6, 7, 8, 9, 10, 11, 12, 13, 14, 15, 16] rfl) hK hNw 0 rfl rfl) hl.1 rfl (Nat.le_of_ble_eq_true rfl) dX6_bad_72 ⟨Nat.le_of_ble_eq_true rfl, Nat.le_of_ble_eq_true rfl⟩ rfl rfl rfl) ?_
          refine lv_istore (lv' := [(5, .int (f1_above (f1_make M N model (f2_counting M) F) M model N (f2_counting M) limit)), (4, .int (f2_counting M)), (0, .ref (ax 0)), (1, .int model), (2, .int limit), (3, .int what)]) hx hb dX6_bad_75 hl (by decide) rfl (fun ls hl => ?_)
          refine lv_iload_n hx hb dX6_bad_77 rfl (lv_at hl 5 rfl) ?_
          refine lv_if_ne (tgt := 87) hx hb dX6_bad_78 (by decide) (fun c_5 => ?_) (fun c_5 => ?_)
          · refine lv_aload_n hx hb dX6_bad_87 rfl (lv_at hl 2 rfl) ?_
            refine va_get (D := D) (ci := 6) (C := RX6) (T := TX6) (N := 5) hx hb hW inX6 hown hK hP 0 rfl rfl 0 (by decide) (hW _ (wa tw237 rfl)) (fun _ h9 => h9) rfl dX6_bad_88 ?_
            refine lv_iload hx hb dX6_bad_91 (lv_at hl 0 rfl) ?_
            refine xri (r := f2_fieldsOf M N (f1_above (f1_make M N model (f2_counting M) F) M model N (f2_counting M) limit)) (rVN (As := [.int (f1_above (f1_make M N model (f2_counting M) F) M model N (f2_counting M) limit)]) (n := 1) (rest := []) ⟨hx, hb, hml, hown, hW⟩ (kX2_fieldsOf l D C am M (f1_above (f1_make M N model (f2_counting M) F) M model N (f2_counting M) limit) N hN hN12) (wa tw320 rfl) (hNw _ tw317 rfl) (wa tw319 rfl) (was ts7 rfl) (wa tw2 rfl) (by decide +kernel) ⟨Nat.le_of_ble_eq_true rfl, Nat.le_of_ble_eq_true rfl⟩ (pVr (hP.sub [9, 10, 11, 12, 13, 14, 15, 16] rfl) hK hNw 0 rfl rfl) hl.1 rfl (Nat.le_of_ble_eq_true rfl) dX6_bad_93 ⟨Nat.le_of_ble_eq_true rfl, Nat.le_of_ble_eq_true rfl⟩ rfl rfl rfl) ?_
            refine lv_istore (lv' := [(6, .int (f2_fieldsOf M N (f1_above (f1_make M N model (f2_counting M) F) M model N (f2_counting M) limit))), (5, .int (f1_above (f1_make M N model (f2_counting M) F) M model N (f2_counting M) limit)), (4, .int (f2_counting M)), (0, .ref (ax 0)), (1, .int model), (2, .int limit), (3, .int what)]) hx hb dX6_bad_96 hl (by decide) rfl (fun ls hl => ?_)
            refine lv_iload_n hx hb dX6_bad_98 rfl (lv_at hl 6 rfl) ?_
            refine lv_iconst (v := 1) hx hb dX6_bad_99 (by decide) ?_
            refine lv_icmp_ne (tgt := 106) hx hb dX6_bad_100 (by decide) (fun c_6 => ?_) (fun c_6 => ?_)
            · refine lv_iconst (v := 2) hx hb dX6_bad_106 (by decide) ?_
              refine lv_iload hx hb dX6_bad_107 (lv_at hl 0 rfl) ?_
              refine lv_imul hx hb dX6_bad_109 ?_
              refine lv_aload_n hx hb dX6_bad_110 rfl (lv_at hl 3 rfl) ?_
              refine va_get (D := D) (ci := 6) (C := RX6) (T := TX6) (N := 5) hx hb hW inX6 hown hK hP 0 rfl rfl 0 (by decide) (hW _ (wa tw237 rfl)) (fun _ h9 => h9) rfl dX6_bad_111 ?_
              refine lv_iload hx hb dX6_bad_114 (lv_at hl 2 rfl) ?_
              refine xri (r := f2_fieldsOf M N (f2_counting M)) (rVN (As := [.int (f2_counting M)]) (n := 1) (rest := [.int (2 * (f2_fieldsOf M N (f1_above (f1_make M N model (f2_counting M) F) M model N (f2_counting M) limit)))]) ⟨hx, hb, hml, hown, hW⟩ (kX2_fieldsOf l D C am M (f2_counting M) N hN hN12) (wa tw320 rfl) (hNw _ tw317 rfl) (wa tw319 rfl) (was ts7 rfl) (wa tw2 rfl) (by decide +kernel) ⟨Nat.le_of_ble_eq_true rfl, Nat.le_of_ble_eq_true rfl⟩ (pVr (hP.sub [9, 10, 11, 12, 13, 14, 15, 16] rfl) hK hNw 0 rfl rfl) hl.1 rfl (Nat.le_of_ble_eq_true rfl) dX6_bad_116 ⟨Nat.le_of_ble_eq_true rfl, Nat.le_of_ble_eq_true rfl⟩ rfl rfl rfl) ?_
              refine lv_icmp_le (tgt := 126) hx hb dX6_bad_119 (by decide) (fun c_7 => ?_) (fun c_7 => ?_)
              · refine lv_iconst (v := 0) hx hb dX6_bad_126 (by decide) ?_
                have hb_0 : (f6_bad_F M F fm N model limit what) = f1_make M N model (f2_counting M) F := (by simp only [f6_bad, f6_bad_F, f6_bad_fm, if_pos c_1, if_pos c_2, if_pos c_3, if_neg c_4, if_neg c_5, if_neg c_6, if_pos c_7])
                have hb_1 : (f6_bad_fm M F fm N model limit what) = model := (by simp only [f6_bad, f6_bad_F, f6_bad_fm, if_pos c_1, if_pos c_2, if_pos c_3, if_neg c_4, if_neg c_5, if_neg c_6, if_pos c_7])
                have hP9 : va_P D vwCl (((wX ax am af ap ab ar) ++ (wF af C (f6_bad_F M F fm N model limit what) (f6_bad_fm M F fm N model limit what)) ++ (wM am C M))) H := by rw [hb_0, hb_1]; exact hP
                have hD9 : va_D A (((wX ax am af ap ab ar) ++ (wF af C (f6_bad_F M F fm N model limit what) (f6_bad_fm M F fm N model limit what)) ++ (wM am C M))) := by rw [hb_0, hb_1]; exact hD
                exact W.iret (v := 0) hx hb hr (fun t ht _ => ⟨⟨_, (), rfl, (by simp only [f6_bad, f6_bad_F, f6_bad_fm, if_pos c_1, if_pos c_2, if_pos c_3, if_neg c_4, if_neg c_5, if_neg c_6, if_pos c_7]), ⟨by rw [ht]; exact hP9, by rw [hAe]; exact hD9⟩⟩, hS.F ht⟩) hS.2.2 dX6_bad_127
              · refine lv_iconst (v := 1) hx hb dX6_bad_122 (by decide) ?_
                refine lv_goto (tgt := 127) hx hb dX6_bad_123 (by decide) ?_
                have hb_0 : (f6_bad_F M F fm N model limit what) = f1_make M N model (f2_counting M) F := (by simp only [f6_bad, f6_bad_F, f6_bad_fm, if_pos c_1, if_pos c_2, if_pos c_3, if_neg c_4, if_neg c_5, if_neg c_6, if_neg c_7])
                have hb_1 : (f6_bad_fm M F fm N model limit what) = model := (by simp only [f6_bad, f6_bad_F, f6_bad_fm, if_pos c_1, if_pos c_2, if_pos c_3, if_neg c_4, if_neg c_5, if_neg c_6, if_neg c_7])
                have hP9 : va_P D vwCl (((wX ax am af ap ab ar) ++ (wF af C (f6_bad_F M F fm N model limit what) (f6_bad_fm M F fm N model limit what)) ++ (wM am C M))) H := by rw [hb_0, hb_1]; exact hP
                have hD9 : va_D A (((wX ax am af ap ab ar) ++ (wF af C (f6_bad_F M F fm N model limit what) (f6_bad_fm M F fm N model limit what)) ++ (wM am C M))) := by rw [hb_0, hb_1]; exact hD
                exact W.iret (v := 1) hx hb hr (fun t ht _ => ⟨⟨_, (), rfl, (by simp only [f6_bad, f6_bad_F, f6_bad_fm, if_pos c_1, if_pos c_2, if_pos c_3, if_neg c_4, if_neg c_5, if_neg c_6, if_neg c_7]), ⟨by rw [ht]; exact hP9, by rw [hAe]; exact hD9⟩⟩, hS.F ht⟩) hS.2.2 dX6_bad_127
            · refine lv_iload hx hb dX6_bad_103 (lv_at hl 0 rfl) ?_
              have hb_0 : (f6_bad_F M F fm N model limit what) = f1_make M N model (f2_counting M) F := (by simp only [f6_bad, f6_bad_F, f6_bad_fm, if_pos c_1, if_pos c_2, if_pos c_3, if_neg c_4, if_neg c_5, if_pos c_6])
              have hb_1 : (f6_bad_fm M F fm N model limit what) = model := (by simp only [f6_bad, f6_bad_F, f6_bad_fm, if_pos c_1, if_pos c_2, if_pos c_3, if_neg c_4, if_neg c_5, if_pos c_6])
              have hP9 : va_P D vwCl (((wX ax am af ap ab ar) ++ (wF af C (f6_bad_F M F fm N model limit what) (f6_bad_fm M F fm N model limit what)) ++ (wM am C M))) H := by rw [hb_0, hb_1]; exact hP
              have hD9 : va_D A (((wX ax am af ap ab ar) ++ (wF af C (f6_bad_F M F fm N model limit what) (f6_bad_fm M F fm N model limit what)) ++ (wM am C M))) := by rw [hb_0, hb_1]; exact hD
              exact W.iret (v := f2_fieldsOf M N (f1_above (f1_make M N model (f2_counting M) F) M model N (f2_counting M) limit)) hx hb hr (fun t ht _ => ⟨⟨_, (), rfl, (by simp only [f6_bad, f6_bad_F, f6_bad_fm, if_pos c_1, if_pos c_2, if_pos c_3, if_neg c_4, if_neg c_5, if_pos c_6]), ⟨by rw [ht]; exact hP9, by rw [hAe]; exact hD9⟩⟩, hS.F ht⟩) hS.2.2 dX6_bad_105
          · refine lv_iload hx hb dX6_bad_81 (lv_at hl 0 rfl) ?_
            refine xri (r := bitC (f1_above (f1_make M N model (f2_counting M) F) M model N (f2_counting M) limit)) (rS (As := [.int (f1_above (f1_make M N model (f2_counting M) F) M model N (f2_counting M) limit)]) (n := 1) (rest := []) ⟨hx, hb, hml, hown, hW⟩ (kJ6_bitCount_0f7a4 l (f1_above (f1_make M N model (f2_counting M) F) M model N (f2_counting M) limit)) (wa tw301 rfl) (wa tw299 rfl) (wa tw300 rfl) (wa tw9 rfl) (by decide +kernel) ⟨Nat.le_of_ble_eq_true rfl, Nat.le_of_ble_eq_true rfl⟩ pS0 hl.1 rfl (Nat.le_of_ble_eq_true rfl) dX6_bad_83 ⟨Nat.le_of_ble_eq_true rfl, Nat.le_of_ble_eq_true rfl⟩ rfl rfl rfl) ?_
            have hb_0 : (f6_bad_F M F fm N model limit what) = f1_make M N model (f2_counting M) F := (by simp only [f6_bad, f6_bad_F, f6_bad_fm, if_pos c_1, if_pos c_2, if_pos c_3, if_neg c_4, if_pos c_5])
            have hb_1 : (f6_bad_fm M F fm N model limit what) = model := (by simp only [f6_bad, f6_bad_F, f6_bad_fm, if_pos c_1, if_pos c_2, if_pos c_3, if_neg c_4, if_pos c_5])
            have hP9 : va_P D vwCl (((wX ax am af ap ab ar) ++ (wF af C (f6_bad_F M F fm N model limit what) (f6_bad_fm M F fm N model limit what)) ++ (wM am C M))) H := by rw [hb_0, hb_1]; exact hP
            have hD9 : va_D A (((wX ax am af ap ab ar) ++ (wF af C (f6_bad_F M F fm N model limit what) (f6_bad_fm M F fm N model limit what)) ++ (wM am C M))) := by rw [hb_0, hb_1]; exact hD
            exact W.iret (v := bitC (f1_above (f1_make M N model (f2_counting M) F) M model N (f2_counting M) limit)) hx hb hr (fun t ht _ => ⟨⟨_, (), rfl, (by simp only [f6_bad, f6_bad_F, f6_bad_fm, if_pos c_1, if_pos c_2, if_pos c_3, if_neg c_4, if_pos c_5]), ⟨by rw [ht]; exact hP9, by rw [hAe]; exact hD9⟩⟩, hS.F ht⟩) hS.2.2 dX6_bad_86
        · refine lv_ldc hx hb hown (hW _ (wa tw406 rfl)) dX6_bad_58 ?_
          have hb_0 : (f6_bad_F M F fm N model limit what) = f1_make M N model (f2_counting M) F := (by simp only [f6_bad, f6_bad_F, f6_bad_fm, if_pos c_1, if_pos c_2, if_pos c_3, if_pos c_4])
          have hb_1 : (f6_bad_fm M F fm N model limit what) = model := (by simp only [f6_bad, f6_bad_F, f6_bad_fm, if_pos c_1, if_pos c_2, if_pos c_3, if_pos c_4])
          have hP9 : va_P D vwCl (((wX ax am af ap ab ar) ++ (wF af C (f6_bad_F M F fm N model limit what) (f6_bad_fm M F fm N model limit what)) ++ (wM am C M))) H := by rw [hb_0, hb_1]; exact hP
          have hD9 : va_D A (((wX ax am af ap ab ar) ++ (wF af C (f6_bad_F M F fm N model limit what) (f6_bad_fm M F fm N model limit what)) ++ (wM am C M))) := by rw [hb_0, hb_1]; exact hD
          exact W.iret (v := (-100003)) hx hb hr (fun t ht _ => ⟨⟨_, (), rfl, (by simp only [f6_bad, f6_bad_F, f6_bad_fm, if_pos c_1, if_pos c_2, if_pos c_3, if_pos c_4]), ⟨by rw [ht]; exact hP9, by rw [hAe]; exact hD9⟩⟩, hS.F ht⟩) hS.2.2 dX6_bad_60
      · refine lv_ldc hx hb hown (hW _ (wa tw260 rfl)) dX6_bad_29 ?_
        have hb_0 : (f6_bad_F M F fm N model limit what) = F := (by simp only [f6_bad, f6_bad_F, f6_bad_fm, if_pos c_1, if_pos c_2, if_neg c_3])
        have hb_1 : (f6_bad_fm M F fm N model limit what) = fm := (by simp only [f6_bad, f6_bad_F, f6_bad_fm, if_pos c_1, if_pos c_2, if_neg c_3])
        have hP9 : va_P D vwCl (((wX ax am af ap ab ar) ++ (wF af C (f6_bad_F M F fm N model limit what) (f6_bad_fm M F fm N model limit what)) ++ (wM am C M))) s.heap := by rw [hb_0, hb_1]; exact hP
        have hD9 : va_D A (((wX ax am af ap ab ar) ++ (wF af C (f6_bad_F M F fm N model limit what) (f6_bad_fm M F fm N model limit what)) ++ (wM am C M))) := by rw [hb_0, hb_1]; exact hD
        exact W.iret (v := (-100002)) hx hb hr (fun t ht _ => ⟨⟨_, (), rfl, (by simp only [f6_bad, f6_bad_F, f6_bad_fm, if_pos c_1, if_pos c_2, if_neg c_3]), ⟨by rw [ht]; exact hP9, by rw [hAe]; exact hD9⟩⟩, hS.F ht⟩) hS.2.2 dX6_bad_31

def f6_lot (Bk : Nat → Nat → Int32) (L : Nat) (tool shift : Int32) : Int32 := (if (f6_outside tool 0 3) = 0 then (if (f6_outside shift (-9999) 9999) = 0 then (if (Bk 8 0) < 60 then (f0_add Bk L tool shift) else ((-100004))) else ((-100002))) else ((-100001)))
def f6_lot_Bk (Bk : Nat → Nat → Int32) (L : Nat) (tool shift : Int32) : Nat → Nat → Int32 := (if (f6_outside tool 0 3) = 0 then (if (f6_outside shift (-9999) 9999) = 0 then (if (Bk 8 0) < 60 then (f0_add_Bk Bk L tool shift) else (Bk)) else (Bk)) else (Bk))
set_option maxHeartbeats 4000000 in
set_option maxRecDepth 100000 in
theorem kX6_lot (l : Launch) (D : va_G) (C : Nat → ClassId) (ax am af ap ab ar : Nat → Nat) (Bk : Nat → Nat → Int32) (tool shift : Int32) (sz : Nat) (L : Nat) (hL : Bk 8 0 = nI L) (hL60 : L ≤ 60) : Wi l D C yX6_lot cX6_lot 3 .int 1 [.ref (ax 0), .int tool, .int shift] ((wX ax am af ap ab ar) ++ (wB ab C Bk)) (((wX ax am af ap ab ar) ++ (wB ab C (f6_lot_Bk Bk L tool shift)))) (f6_lot Bk L tool shift) sz := by
  refine Met.ofW (cc := cX6_lot) (maxL := 3) (ret := (some .int)) (by decide) rfl ?_
  intro p e s m args below meth c s₁ B hml hv
  obtain ⟨rfl, hsz, hP, hK, hNw, hD0⟩ := hv
  have hx := B.exec
  have hb := B.bytes
  have hr := B.returns
  have hts := atoms_spec (ws := wm yX6_lot cX6_lot 3 (some .int)) B.pre
  have hown : s.vm.findClass RX6 = some m.cls := findClass_of_methodNamed B.named
  have hlocks := B.notSynchronized
  have hW : ∀ w ∈ WA, w.before _ s = true := fun w h => hts w (List.mem_cons_of_mem _ h)
  subst hsz
  have hD := hD0.self (sz := s.heap.size)
  generalize hAe : va_A ((wX ax am af ap ab ar) ++ (wB ab C Bk)) s.heap.size = A at hD ⊢
  have hA : ∀ q : Nat, s.heap.size ≤ q → A q := fun q h => by rw [← hAe]; exact Or.inr h
  have hS : va_S A s.heap s.heap [] := va_S.rf
  have hP : va_P D vwCl [((ax 0), .inr (6, [.ref (am 0), .ref (af 0), .ref (ap 0), .ref (ab 0), .ref (ar 0)])), ((ab 0), .inr (0, [.ref (ab 1), .ref (ab 2), .ref (ab 3), .ref (ab 4), .ref (ab 5), .int (Bk 8 0), .int (Bk 8 1)])), ((ab 1), eI C 60 (Bk 0)), ((ab 2), eI C 60 (Bk 1)), ((ab 3), eI C 60 (Bk 2)), ((ab 4), eZ C 60 (Bk 3)), ((ab 5), eII C 4 (rr ab 6 4)), ((ab 6), eI C 61 (Bk 4)), ((ab 7), eI C 61 (Bk 5)), ((ab 8), eI C 61 (Bk 6)), ((ab 9), eI C 61 (Bk 7))] s.heap := hP
  have hD : va_D A [((ax 0), .inr (6, [.ref (am 0), .ref (af 0), .ref (ap 0), .ref (ab 0), .ref (ar 0)])), ((ab 0), .inr (0, [.ref (ab 1), .ref (ab 2), .ref (ab 3), .ref (ab 4), .ref (ab 5), .int (Bk 8 0), .int (Bk 8 1)])), ((ab 1), eI C 60 (Bk 0)), ((ab 2), eI C 60 (Bk 1)), ((ab 3), eI C 60 (Bk 2)), ((ab 4), eZ C 60 (Bk 3)), ((ab 5), eII C 4 (rr ab 6 4)), ((ab 6), eI C 61 (Bk 4)), ((ab 7), eI C 61 (Bk 5)), ((ab 8), eI C 61 (Bk 6)), ((ab 9), eI C 61 (Bk 7))] := hD
  have hl := lv_entry ([.ref (ax 0), .int tool, .int shift]) (n := 3) (Nat.le_of_ble_eq_true rfl)
  rw [lg_entry_eq]
  generalize (lg_sl ([.ref (ax 0), .int tool, .int shift]) ++ List.replicate (3 - (lg_sl ([.ref (ax 0), .int tool, .int shift])).length) Slot.unset).toArray = ls at hl ⊢
  have hl : lv_has ls 3 [(0, .ref (ax 0)), (1, .int tool), (2, .int shift)] := hl
  refine lv_iload_n hx hb dX6_lot_0 rfl (lv_at hl 1 rfl) ?_
  refine lv_iconst (v := 0) hx hb dX6_lot_1 (by decide) ?_
  refine lv_iconst (v := 3) hx hb dX6_lot_2 (by decide) ?_
  refine xri (r := f6_outside tool 0 3) (rS (As := [.int tool, .int 0, .int 3]) (n := 3) (rest := []) ⟨hx, hb, hml, hown, hW⟩ (kX6_outside l tool 0 3) (wa tw259 rfl) (wa tw257 rfl) (wa tw258 rfl) (wa tw1 rfl) (by decide +kernel) ⟨Nat.le_of_ble_eq_true rfl, Nat.le_of_ble_eq_true rfl⟩ pS0 hl.1 rfl (Nat.le_of_ble_eq_true rfl) dX6_lot_3 ⟨Nat.le_of_ble_eq_true rfl, Nat.le_of_ble_eq_true rfl⟩ rfl rfl rfl) ?_
  refine lv_if_eq (tgt := 12) hx hb dX6_lot_6 (by decide) (fun c_1 => ?_) (fun c_1 => ?_)
  · refine lv_iload_n hx hb dX6_lot_12 rfl (lv_at hl 2 rfl) ?_
    refine lv_sipush (v := (-9999)) hx hb dX6_lot_13 (by decide) ?_
    refine lv_sipush (v := 9999) hx hb dX6_lot_16 (by decide) ?_
    refine xri (r := f6_outside shift (-9999) 9999) (rS (As := [.int shift, .int (-9999), .int 9999]) (n := 3) (rest := []) ⟨hx, hb, hml, hown, hW⟩ (kX6_outside l shift (-9999) 9999) (wa tw259 rfl) (wa tw257 rfl) (wa tw258 rfl) (wa tw1 rfl) (by decide +kernel) ⟨Nat.le_of_ble_eq_true rfl, Nat.le_of_ble_eq_true rfl⟩ pS0 hl.1 rfl (Nat.le_of_ble_eq_true rfl) dX6_lot_19 ⟨Nat.le_of_ble_eq_true rfl, Nat.le_of_ble_eq_true rfl⟩ rfl rfl rfl) ?_
    refine lv_if_eq (tgt := 28) hx hb dX6_lot_22 (by decide) (fun c_2 => ?_) (fun c_2 => ?_)
    · refine lv_aload_n hx hb dX6_lot_28 rfl (lv_at hl 0 rfl) ?_
      refine va_get (D := D) (ci := 6) (C := RX6) (T := TX6) (N := 5) hx hb hW inX6 hown hK hP 0 rfl rfl 3 (by decide) (hW _ (wa tw240 rfl)) (fun _ h9 => h9) rfl dX6_lot_29 ?_
      refine va_getN (D := D) (host := "FieldAfterField") (ci := 0) (C := RX0) (T := TX0) (N := 7) hx hb hW inX0 hown hK hP 1 rfl rfl 5 (by decide) (va_Nw.use rfl (hNw _ tw184 rfl)) (fun _ h9 => h9) rfl dX6_lot_32 ?_
      refine lv_bipush (v := 60) hx hb dX6_lot_35 (by decide) ?_
      refine lv_icmp_lt (tgt := 43) hx hb dX6_lot_37 (by decide) (fun c_3 => ?_) (fun c_3 => ?_)
      · have hlt : L < 60 := q_ge60 hL hL60 c_3
        refine lv_aload_n hx hb dX6_lot_43 rfl (lv_at hl 0 rfl) ?_
        refine va_get (D := D) (ci := 6) (C := RX6) (T := TX6) (N := 5) hx hb hW inX6 hown hK hP 0 rfl rfl 3 (by decide) (hW _ (wa tw240 rfl)) (fun _ h9 => h9) rfl dX6_lot_44 ?_
        refine lv_iload_n hx hb dX6_lot_47 rfl (lv_at hl 1 rfl) ?_
        refine lv_iload_n hx hb dX6_lot_48 rfl (lv_at hl 2 rfl) ?_
        refine xwi (wr := [((ax 0), .inr (6, [.ref (am 0), .ref (af 0), .ref (ap 0), .ref (ab 0), .ref (ar 0)]))]) (rVN (As := [.int tool, .int shift]) (n := 2) (rest := []) ⟨hx, hb, hml, hown, hW⟩ (kX0_add l D C ab Bk tool shift s.heap.size L hL hlt) (wa tw468 rfl) (hNw _ tw465 rfl) (wa tw467 rfl) (was ts28 rfl) (wa tw6 rfl) (by decide +kernel) ⟨Nat.le_of_ble_eq_true rfl, Nat.le_of_ble_eq_true rfl⟩ (pVw (hP.sub [1, 2, 3, 4, 5, 6, 7, 8, 9, 10] rfl) (hD.sub [1, 2, 3, 4, 5, 6, 7, 8, 9, 10] (by decide) rfl) hK hNw 0 rfl rfl) hl.1 rfl (Nat.le_of_ble_eq_true rfl) dX6_lot_49 ⟨Nat.le_of_ble_eq_true rfl, Nat.le_of_ble_eq_true rfl⟩ rfl rfl rfl) hP hD hS hA [1, 2, 3, 4, 5, 6, 7, 8, 9, 10] [0] rfl rfl (by decide) (by decide) (fun H locs hP hD hS => ?_)
        have hP : va_P D vwCl [((ax 0), .inr (6, [.ref (am 0), .ref (af 0), .ref (ap 0), .ref (ab 0), .ref (ar 0)])), ((ab 0), .inr (0, [.ref (ab 1), .ref (ab 2), .ref (ab 3), .ref (ab 4), .ref (ab 5), .int ((f0_add_Bk Bk L tool shift) 8 0), .int ((f0_add_Bk Bk L tool shift) 8 1)])), ((ab 1), eI C 60 ((f0_add_Bk Bk L tool shift) 0)), ((ab 2), eI C 60 ((f0_add_Bk Bk L tool shift) 1)), ((ab 3), eI C 60 ((f0_add_Bk Bk L tool shift) 2)), ((ab 4), eZ C 60 ((f0_add_Bk Bk L tool shift) 3)), ((ab 5), eII C 4 (rr ab 6 4)), ((ab 6), eI C 61 ((f0_add_Bk Bk L tool shift) 4)), ((ab 7), eI C 61 ((f0_add_Bk Bk L tool shift) 5)), ((ab 8), eI C 61 ((f0_add_Bk Bk L tool shift) 6)), ((ab 9), eI C 61 ((f0_add_Bk Bk L tool shift) 7))] H := hP
        have hD : va_D A [((ax 0), .inr (6, [.ref (am 0), .ref (af 0), .ref (ap 0), .ref (ab 0), .ref (ar 0)])), ((ab 0), .inr (0, [.ref (ab 1), .ref (ab 2), .ref (ab 3), .ref (ab 4), .ref (ab 5), .int ((f0_add_Bk Bk L tool shift) 8 0), .int ((f0_add_Bk Bk L tool shift) 8 1)])), ((ab 1), eI C 60 ((f0_add_Bk Bk L tool shift) 0)), ((ab 2), eI C 60 ((f0_add_Bk Bk L tool shift) 1)), ((ab 3), eI C 60 ((f0_add_Bk Bk L tool shift) 2)), ((ab 4), eZ C 60 ((f0_add_Bk Bk L tool shift) 3)), ((ab 5), eII C 4 (rr ab 6 4)), ((ab 6), eI C 61 ((f0_add_Bk Bk L tool shift) 4)), ((ab 7), eI C 61 ((f0_add_Bk Bk L tool shift) 5)), ((ab 8), eI C 61 ((f0_add_Bk Bk L tool shift) 6)), ((ab 9), eI C 61 ((f0_add_Bk Bk L tool shift) 7))] := hD
        have hb_0 : (f6_lot_Bk Bk L tool shift) = f0_add_Bk Bk L tool shift := (by simp only [f6_lot, f6_lot_Bk, if_pos c_1, if_pos c_2, if_pos c_3])
        have hP9 : va_P D vwCl (((wX ax am af ap ab ar) ++ (wB ab C (f6_lot_Bk Bk L tool shift)))) H := by rw [hb_0]; exact hP
        have hD9 : va_D A (((wX ax am af ap ab ar) ++ (wB ab C (f6_lot_Bk Bk L tool shift)))) := by rw [hb_0]; exact hD
        exact W.iret (v := f0_add Bk L tool shift) hx hb hr (fun t ht _ => ⟨⟨_, (), rfl, (by simp only [f6_lot, f6_lot_Bk, if_pos c_1, if_pos c_2, if_pos c_3]), ⟨by rw [ht]; exact hP9, by rw [hAe]; exact hD9⟩⟩, hS.F ht⟩) hS.2.2 dX6_lot_52
      · refine lv_ldc hx hb hown (hW _ (wa tw261 rfl)) dX6_lot_40 ?_
        have hb_0 : (f6_lot_Bk Bk L tool shift) = Bk := (by simp only [f6_lot, f6_lot_Bk, if_pos c_1, if_pos c_2, if_neg c_3])
        have hP9 : va_P D vwCl (((wX ax am af ap ab ar) ++ (wB ab C (f6_lot_Bk Bk L tool shift)))) s.heap := by rw [hb_0]; exact hP
        have hD9 : va_D A (((wX ax am af ap ab ar) ++ (wB ab C (f6_lot_Bk Bk L tool shift)))) := by rw [hb_0]; exact hD
        exact W.iret (v := (-100004)) hx hb hr (fun t ht _ => ⟨⟨_, (), rfl, (by simp only [f6_lot, f6_lot_Bk, if_pos c_1, if_pos c_2, if_neg c_3]), ⟨by rw [ht]; exact hP9, by rw [hAe]; exact hD9⟩⟩, hS.F ht⟩) hS.2.2 dX6_lot_42
    · refine lv_ldc hx hb hown (hW _ (wa tw260 rfl)) dX6_lot_25 ?_
      have hb_0 : (f6_lot_Bk Bk L tool shift) = Bk := (by simp only [f6_lot, f6_lot_Bk, if_pos c_1, if_neg c_2])
      have hP9 : va_P D vwCl (((wX ax am af ap ab ar) ++ (wB ab C (f6_lot_Bk Bk L tool shift)))) s.heap := by rw [hb_0]; exact hP
      have hD9 : va_D A (((wX ax am af ap ab ar) ++ (wB ab C (f6_lot_Bk Bk L tool shift)))) := by rw [hb_0]; exact hD
      exact W.iret (v := (-100002)) hx hb hr (fun t ht _ => ⟨⟨_, (), rfl, (by simp only [f6_lot, f6_lot_Bk, if_pos c_1, if_neg c_2]), ⟨by rw [ht]; exact hP9, by rw [hAe]; exact hD9⟩⟩, hS.F ht⟩) hS.2.2 dX6_lot_27
  · refine lv_ldc hx hb hown (hW _ (wa tw274 rfl)) dX6_lot_9 ?_
    have hb_0 : (f6_lot_Bk Bk L tool shift) = Bk := (by simp only [f6_lot, f6_lot_Bk, if_neg c_1])
    have hP9 : va_P D vwCl (((wX ax am af ap ab ar) ++ (wB ab C (f6_lot_Bk Bk L tool shift)))) s.heap := by rw [hb_0]; exact hP
    have hD9 : va_D A (((wX ax am af ap ab ar) ++ (wB ab C (f6_lot_Bk Bk L tool shift)))) := by rw [hb_0]; exact hD
    exact W.iret (v := (-100001)) hx hb hr (fun t ht _ => ⟨⟨_, (), rfl, (by simp only [f6_lot, f6_lot_Bk, if_neg c_1]), ⟨by rw [ht]; exact hP9, by rw [hAe]; exact hD9⟩⟩, hS.F ht⟩) hS.2.2 dX6_lot_11

def f6_back (Bk : Nat → Nat → Int32) (x rd : Int32) : Int32 := (if (f0_has Bk x) = 0 then ((-100001)) else (if (f6_outside rd (-9999) 9999) = 0 then (1) else ((-100002))))
def f6_back_Bk (Bk : Nat → Nat → Int32) (x rd : Int32) : Nat → Nat → Int32 := (if (f0_has Bk x) = 0 then (Bk) else (if (f6_outside rd (-9999) 9999) = 0 then (f0_setRead_Bk Bk (ix x) rd) else (Bk)))
set_option maxHeartbeats 4000000 in
set_option maxRecDepth 100000 in
theorem kX6_back (l : Launch) (D : va_G) (C : Nat → ClassId) (ax am af ap ab ar : Nat → Nat) (Bk : Nat → Nat → Int32) (x rd : Int32) (sz : Nat) (L : Nat) (hL : Bk 8 0 = nI L) (hL60 : L ≤ 60) : Wi l D C yX6_back cX6_back 3 .int 1 [.ref (ax 0), .int x, .int rd] ((wX ax am af ap ab ar) ++ (wB ab C Bk)) (((wX ax am af ap ab ar) ++ (wB ab C (f6_back_Bk Bk x rd)))) (f6_back Bk x rd) sz := by
  refine Met.ofW (cc := cX6_back) (maxL := 3) (ret := (some .int)) (by decide) rfl ?_
  intro p e s m args below meth c s₁ B hml hv
  obtain ⟨rfl, hsz, hP, hK, hNw, hD0⟩ := hv
  have hx := B.exec
  have hb := B.bytes
  have hr := B.returns
  have hts := atoms_spec (ws := wm yX6_back cX6_back 3 (some .int)) B.pre
  have hown : s.vm.findClass RX6 = some m.cls := findClass_of_methodNamed B.named
  have hlocks := B.notSynchronized
  have hW : ∀ w ∈ WA, w.before _ s = true := fun w h => hts w (List.mem_cons_of_mem _ h)
  subst hsz
  have hD := hD0.self (sz := s.heap.size)
  generalize hAe : va_A ((wX ax am af ap ab ar) ++ (wB ab C Bk)) s.heap.size = A at hD ⊢
  have hA : ∀ q : Nat, s.heap.size ≤ q → A q := fun q h => by rw [← hAe]; exact Or.inr h
  have hS : va_S A s.heap s.heap [] := va_S.rf
  have hP : va_P D vwCl [((ax 0), .inr (6, [.ref (am 0), .ref (af 0), .ref (ap 0), .ref (ab 0), .ref (ar 0)])), ((ab 0), .inr (0, [.ref (ab 1), .ref (ab 2), .ref (ab 3), .ref (ab 4), .ref (ab 5), .int (Bk 8 0), .int (Bk 8 1)])), ((ab 1), eI C 60 (Bk 0)), ((ab 2), eI C 60 (Bk 1)), ((ab 3), eI C 60 (Bk 2)), ((ab 4), eZ C 60 (Bk 3)), ((ab 5), eII C 4 (rr ab 6 4)), ((ab 6), eI C 61 (Bk 4)), ((ab 7), eI C 61 (Bk 5)), ((ab 8), eI C 61 (Bk 6)), ((ab 9), eI C 61 (Bk 7))] s.heap := hP
  have hD : va_D A [((ax 0), .inr (6, [.ref (am 0), .ref (af 0), .ref (ap 0), .ref (ab 0), .ref (ar 0)])), ((ab 0), .inr (0, [.ref (ab 1), .ref (ab 2), .ref (ab 3), .ref (ab 4), .ref (ab 5), .int (Bk 8 0), .int (Bk 8 1)])), ((ab 1), eI C 60 (Bk 0)), ((ab 2), eI C 60 (Bk 1)), ((ab 3), eI C 60 (Bk 2)), ((ab 4), eZ C 60 (Bk 3)), ((ab 5), eII C 4 (rr ab 6 4)), ((ab 6), eI C 61 (Bk 4)), ((ab 7), eI C 61 (Bk 5)), ((ab 8), eI C 61 (Bk 6)), ((ab 9), eI C 61 (Bk 7))] := hD
  have hl := lv_entry ([.ref (ax 0), .int x, .int rd]) (n := 3) (Nat.le_of_ble_eq_true rfl)
  rw [lg_entry_eq]
  generalize (lg_sl ([.ref (ax 0), .int x, .int rd]) ++ List.replicate (3 - (lg_sl ([.ref (ax 0), .int x, .int rd])).length) Slot.unset).toArray = ls at hl ⊢
  have hl : lv_has ls 3 [(0, .ref (ax 0)), (1, .int x), (2, .int rd)] := hl
  refine lv_aload_n hx hb dX6_back_0 rfl (lv_at hl 0 rfl) ?_
  refine va_get (D := D) (ci := 6) (C := RX6) (T := TX6) (N := 5) hx hb hW inX6 hown hK hP 0 rfl rfl 3 (by decide) (hW _ (wa tw240 rfl)) (fun _ h9 => h9) rfl dX6_back_1 ?_
  refine lv_iload_n hx hb dX6_back_4 rfl (lv_at hl 1 rfl) ?_
  refine xri (r := f0_has Bk x) (rVN (As := [.int x]) (n := 1) (rest := []) ⟨hx, hb, hml, hown, hW⟩ (kX0_has l D C ab Bk x ) (wa tw476 rfl) (hNw _ tw473 rfl) (wa tw475 rfl) (was ts29 rfl) (wa tw6 rfl) (by decide +kernel) ⟨Nat.le_of_ble_eq_true rfl, Nat.le_of_ble_eq_true rfl⟩ (pVr (hP.sub [1, 2, 3, 4, 5, 6, 7, 8, 9, 10] rfl) hK hNw 0 rfl rfl) hl.1 rfl (Nat.le_of_ble_eq_true rfl) dX6_back_5 ⟨Nat.le_of_ble_eq_true rfl, Nat.le_of_ble_eq_true rfl⟩ rfl rfl rfl) ?_
  refine lv_if_ne (tgt := 14) hx hb dX6_back_8 (by decide) (fun c_1 => ?_) (fun c_1 => ?_)
  · obtain ⟨k, hk, rfl⟩ := q_hasB hL hL60 c_1
    have hix_k : ix (nI k) = k := ix_nI (by omega)
    refine lv_iload_n hx hb dX6_back_14 rfl (lv_at hl 2 rfl) ?_
    refine lv_sipush (v := (-9999)) hx hb dX6_back_15 (by decide) ?_
    refine lv_sipush (v := 9999) hx hb dX6_back_18 (by decide) ?_
    refine xri (r := f6_outside rd (-9999) 9999) (rS (As := [.int rd, .int (-9999), .int 9999]) (n := 3) (rest := []) ⟨hx, hb, hml, hown, hW⟩ (kX6_outside l rd (-9999) 9999) (wa tw259 rfl) (wa tw257 rfl) (wa tw258 rfl) (wa tw1 rfl) (by decide +kernel) ⟨Nat.le_of_ble_eq_true rfl, Nat.le_of_ble_eq_true rfl⟩ pS0 hl.1 rfl (Nat.le_of_ble_eq_true rfl) dX6_back_21 ⟨Nat.le_of_ble_eq_true rfl, Nat.le_of_ble_eq_true rfl⟩ rfl rfl rfl) ?_
    refine lv_if_eq (tgt := 30) hx hb dX6_back_24 (by decide) (fun c_2 => ?_) (fun c_2 => ?_)
    · refine lv_aload_n hx hb dX6_back_30 rfl (lv_at hl 0 rfl) ?_
      refine va_get (D := D) (ci := 6) (C := RX6) (T := TX6) (N := 5) hx hb hW inX6 hown hK hP 0 rfl rfl 3 (by decide) (hW _ (wa tw240 rfl)) (fun _ h9 => h9) rfl dX6_back_31 ?_
      refine lv_iload_n hx hb dX6_back_34 rfl (lv_at hl 1 rfl) ?_
      refine lv_iload_n hx hb dX6_back_35 rfl (lv_at hl 2 rfl) ?_
      refine xwv (wr := [((ax 0), .inr (6, [.ref (am 0), .ref (af 0), .ref (ap 0), .ref (ab 0), .ref (ar 0)]))]) (rVN (As := [.int (nI k), .int rd]) (n := 2) (rest := []) ⟨hx, hb, hml, hown, hW⟩ (kX0_setRead l D C ab Bk k rd s.heap.size (by omega)) (wa tw480 rfl) (hNw _ tw477 rfl) (wa tw479 rfl) (was ts30 rfl) (wa tw6 rfl) (by decide +kernel) ⟨Nat.le_of_ble_eq_true rfl, Nat.le_of_ble_eq_true rfl⟩ (pVw (hP.sub [1, 2, 3, 4, 5, 6, 7, 8, 9, 10] rfl) (hD.sub [1, 2, 3, 4, 5, 6, 7, 8, 9, 10] (by decide) rfl) hK hNw 0 rfl rfl) hl.1 rfl (Nat.le_of_ble_eq_true rfl) dX6_back_36 ⟨Nat.le_of_ble_eq_true rfl, Nat.le_of_ble_eq_true rfl⟩ rfl rfl rfl) hP hD hS hA [1, 2, 3, 4, 5, 6, 7, 8, 9, 10] [0] rfl rfl (by decide) (by decide) (fun H locs hP hD hS => ?_)
      have hP : va_P D vwCl [((ax 0), .inr (6, [.ref (am 0), .ref (af 0), .ref (ap 0), .ref (ab 0), .ref (ar 0)])), ((ab 0), .inr (0, [.ref (ab 1), .ref (ab 2), .ref (ab 3), .ref (ab 4), .ref (ab 5), .int ((f0_setRead_Bk Bk k rd) 8 0), .int ((f0_setRead_Bk Bk k rd) 8 1)])), ((ab 1), eI C 60 ((f0_setRead_Bk Bk k rd) 0)), ((ab 2), eI C 60 ((f0_setRead_Bk Bk k rd) 1)), ((ab 3), eI C 60 ((f0_setRead_Bk Bk k rd) 2)), ((ab 4), eZ C 60 ((f0_setRead_Bk Bk k rd) 3)), ((ab 5), eII C 4 (rr ab 6 4)), ((ab 6), eI C 61 ((f0_setRead_Bk Bk k rd) 4)), ((ab 7), eI C 61 ((f0_setRead_Bk Bk k rd) 5)), ((ab 8), eI C 61 ((f0_setRead_Bk Bk k rd) 6)), ((ab 9), eI C 61 ((f0_setRead_Bk Bk k rd) 7))] H := hP
      have hD : va_D A [((ax 0), .inr (6, [.ref (am 0), .ref (af 0), .ref (ap 0), .ref (ab 0), .ref (ar 0)])), ((ab 0), .inr (0, [.ref (ab 1), .ref (ab 2), .ref (ab 3), .ref (ab 4), .ref (ab 5), .int ((f0_setRead_Bk Bk k rd) 8 0), .int ((f0_setRead_Bk Bk k rd) 8 1)])), ((ab 1), eI C 60 ((f0_setRead_Bk Bk k rd) 0)), ((ab 2), eI C 60 ((f0_setRead_Bk Bk k rd) 1)), ((ab 3), eI C 60 ((f0_setRead_Bk Bk k rd) 2)), ((ab 4), eZ C 60 ((f0_setRead_Bk Bk k rd) 3)), ((ab 5), eII C 4 (rr ab 6 4)), ((ab 6), eI C 61 ((f0_setRead_Bk Bk k rd) 4)), ((ab 7), eI C 61 ((f0_setRead_Bk Bk k rd) 5)), ((ab 8), eI C 61 ((f0_setRead_Bk Bk k rd) 6)), ((ab 9), eI C 61 ((f0_setRead_Bk Bk k rd) 7))] := hD
      refine lv_iconst (v := 1) hx hb dX6_back_39 (by decide) ?_
      have hb_0 : (f6_back_Bk Bk (nI k) rd) = f0_setRead_Bk Bk k rd := (by simp only [f6_back, f6_back_Bk, if_neg c_1, if_pos c_2, hix_k])
      have hP9 : va_P D vwCl (((wX ax am af ap ab ar) ++ (wB ab C (f6_back_Bk Bk (nI k) rd)))) H := by rw [hb_0]; exact hP
      have hD9 : va_D A (((wX ax am af ap ab ar) ++ (wB ab C (f6_back_Bk Bk (nI k) rd)))) := by rw [hb_0]; exact hD
      exact W.iret (v := 1) hx hb hr (fun t ht _ => ⟨⟨_, (), rfl, (by simp only [f6_back, f6_back_Bk, if_neg c_1, if_pos c_2, hix_k]), ⟨by rw [ht]; exact hP9, by rw [hAe]; exact hD9⟩⟩, hS.F ht⟩) hS.2.2 dX6_back_40
    · refine lv_ldc hx hb hown (hW _ (wa tw260 rfl)) dX6_back_27 ?_
      have hb_0 : (f6_back_Bk Bk (nI k) rd) = Bk := (by simp only [f6_back, f6_back_Bk, if_neg c_1, if_neg c_2, hix_k])
      have hP9 : va_P D vwCl (((wX ax am af ap ab ar) ++ (wB ab C (f6_back_Bk Bk (nI k) rd)))) s.heap := by rw [hb_0]; exact hP
      have hD9 : va_D A (((wX ax am af ap ab ar) ++ (wB ab C (f6_back_Bk Bk (nI k) rd)))) := by rw [hb_0]; exact hD
      exact W.iret (v := (-100002)) hx hb hr (fun t ht _ => ⟨⟨_, (), rfl, (by simp only [f6_back, f6_back_Bk, if_neg c_1, if_neg c_2, hix_k]), ⟨by rw [ht]; exact hP9, by rw [hAe]; exact hD9⟩⟩, hS.F ht⟩) hS.2.2 dX6_back_29
  · refine lv_ldc hx hb hown (hW _ (wa tw274 rfl)) dX6_back_11 ?_
    have hb_0 : (f6_back_Bk Bk x rd) = Bk := (by simp only [f6_back, f6_back_Bk, if_pos c_1])
    have hP9 : va_P D vwCl (((wX ax am af ap ab ar) ++ (wB ab C (f6_back_Bk Bk x rd)))) s.heap := by rw [hb_0]; exact hP
    have hD9 : va_D A (((wX ax am af ap ab ar) ++ (wB ab C (f6_back_Bk Bk x rd)))) := by rw [hb_0]; exact hD
    exact W.iret (v := (-100001)) hx hb hr (fun t ht _ => ⟨⟨_, (), rfl, (by simp only [f6_back, f6_back_Bk, if_pos c_1]), ⟨by rw [ht]; exact hP9, by rw [hAe]; exact hD9⟩⟩, hS.F ht⟩) hS.2.2 dX6_back_13

def f6_mend (Bk : Nat → Nat → Int32) (L : Nat) (tool : Int32) : Int32 := (if (f6_outside tool 0 3) = 0 then (1) else ((-100001)))
def f6_mend_Bk (Bk : Nat → Nat → Int32) (L : Nat) (tool : Int32) : Nat → Nat → Int32 := (if (f6_outside tool 0 3) = 0 then (if tool = 0 then (uM Bk 4 (upd (Bk 4) L 1)) else (if tool = 1 then (uM Bk 5 (upd (Bk 5) L 1)) else (if tool = 2 then (uM Bk 6 (upd (Bk 6) L 1)) else (uM Bk 7 (upd (Bk 7) L 1))))) else (Bk))
set_option maxHeartbeats 4000000 in
set_option maxRecDepth 100000 in
theorem kX6_mend (l : Launch) (D : va_G) (C : Nat → ClassId) (ax am af ap ab ar : Nat → Nat) (Bk : Nat → Nat → Int32) (tool : Int32) (sz : Nat) (L : Nat) (hL : Bk 8 0 = nI L) (hL60 : L ≤ 60) : Wi l D C yX6_mend cX6_mend 2 .int 1 [.ref (ax 0), .int tool] ((wX ax am af ap ab ar) ++ (wB ab C Bk)) (((wX ax am af ap ab ar) ++ (wB ab C (f6_mend_Bk Bk L tool)))) (f6_mend Bk L tool) sz := by
  refine Met.ofW (cc := cX6_mend) (maxL := 2) (ret := (some .int)) (by decide) rfl ?_
  intro p e s m args below meth c s₁ B hml hv
  obtain ⟨rfl, hsz, hP, hK, hNw, hD0⟩ := hv
  have hx := B.exec
  have hb := B.bytes
  have hr := B.returns
  have hts := atoms_spec (ws := wm yX6_mend cX6_mend 2 (some .int)) B.pre
  have hown : s.vm.findClass RX6 = some m.cls := findClass_of_methodNamed B.named
  have hlocks := B.notSynchronized
  have hW : ∀ w ∈ WA, w.before _ s = true := fun w h => hts w (List.mem_cons_of_mem _ h)
  subst hsz
  have hD := hD0.self (sz := s.heap.size)
  generalize hAe : va_A ((wX ax am af ap ab ar) ++ (wB ab C Bk)) s.heap.size = A at hD ⊢
  have hA : ∀ q : Nat, s.heap.size ≤ q → A q := fun q h => by rw [← hAe]; exact Or.inr h
  have hS : va_S A s.heap s.heap [] := va_S.rf
  have hP : va_P D vwCl [((ax 0), .inr (6, [.ref (am 0), .ref (af 0), .ref (ap 0), .ref (ab 0), .ref (ar 0)])), ((ab 0), .inr (0, [.ref (ab 1), .ref (ab 2), .ref (ab 3), .ref (ab 4), .ref (ab 5), .int (Bk 8 0), .int (Bk 8 1)])), ((ab 1), eI C 60 (Bk 0)), ((ab 2), eI C 60 (Bk 1)), ((ab 3), eI C 60 (Bk 2)), ((ab 4), eZ C 60 (Bk 3)), ((ab 5), eII C 4 (rr ab 6 4)), ((ab 6), eI C 61 (Bk 4)), ((ab 7), eI C 61 (Bk 5)), ((ab 8), eI C 61 (Bk 6)), ((ab 9), eI C 61 (Bk 7))] s.heap := hP
  have hD : va_D A [((ax 0), .inr (6, [.ref (am 0), .ref (af 0), .ref (ap 0), .ref (ab 0), .ref (ar 0)])), ((ab 0), .inr (0, [.ref (ab 1), .ref (ab 2), .ref (ab 3), .ref (ab 4), .ref (ab 5), .int (Bk 8 0), .int (Bk 8 1)])), ((ab 1), eI C 60 (Bk 0)), ((ab 2), eI C 60 (Bk 1)), ((ab 3), eI C 60 (Bk 2)), ((ab 4), eZ C 60 (Bk 3)), ((ab 5), eII C 4 (rr ab 6 4)), ((ab 6), eI C 61 (Bk 4)), ((ab 7), eI C 61 (Bk 5)), ((ab 8), eI C 61 (Bk 6)), ((ab 9), eI C 61 (Bk 7))] := hD
  have hl := lv_entry ([.ref (ax 0), .int tool]) (n := 2) (Nat.le_of_ble_eq_true rfl)
  rw [lg_entry_eq]
  generalize (lg_sl ([.ref (ax 0), .int tool]) ++ List.replicate (2 - (lg_sl ([.ref (ax 0), .int tool])).length) Slot.unset).toArray = ls at hl ⊢
  have hl : lv_has ls 2 [(0, .ref (ax 0)), (1, .int tool)] := hl
  refine lv_iload_n hx hb dX6_mend_0 rfl (lv_at hl 1 rfl) ?_
  refine lv_iconst (v := 0) hx hb dX6_mend_1 (by decide) ?_
  refine lv_iconst (v := 3) hx hb dX6_mend_2 (by decide) ?_
  refine xri (r := f6_outside tool 0 3) (rS (As := [.int tool, .int 0, .int 3]) (n := 3) (rest := []) ⟨hx, hb, hml, hown, hW⟩ (kX6_outside l tool 0 3) (wa tw259 rfl) (wa tw257 rfl) (wa tw258 rfl) (wa tw1 rfl) (by decide +kernel) ⟨Nat.le_of_ble_eq_true rfl, Nat.le_of_ble_eq_true rfl⟩ pS0 hl.1 rfl (Nat.le_of_ble_eq_true rfl) dX6_mend_3 ⟨Nat.le_of_ble_eq_true rfl, Nat.le_of_ble_eq_true rfl⟩ rfl rfl rfl) ?_
  refine lv_if_eq (tgt := 12) hx hb dX6_mend_6 (by decide) (fun c_1 => ?_) (fun c_1 => ?_)
  · rcases (q_tool c_1) with rfl | rfl | rfl | rfl
    · have hz_0_0 : (0 : Int32) = 0 := rfl
      refine lv_aload_n hx hb dX6_mend_12 rfl (lv_at hl 0 rfl) ?_
      refine va_get (D := D) (ci := 6) (C := RX6) (T := TX6) (N := 5) hx hb hW inX6 hown hK hP 0 rfl rfl 3 (by decide) (hW _ (wa tw240 rfl)) (fun _ h9 => h9) rfl dX6_mend_13 ?_
      refine lv_iload_n hx hb dX6_mend_16 rfl (lv_at hl 1 rfl) ?_
      refine xwv (wr := [((ax 0), .inr (6, [.ref (am 0), .ref (af 0), .ref (ap 0), .ref (ab 0), .ref (ar 0)]))]) (rVN (As := [.int 0]) (n := 1) (rest := []) ⟨hx, hb, hml, hown, hW⟩ (kX0_setMended_0 l D C ab Bk  s.heap.size L hL hL60) (wa tw488 rfl) (hNw _ tw485 rfl) (wa tw487 rfl) (was ts31 rfl) (wa tw6 rfl) (by decide +kernel) ⟨Nat.le_of_ble_eq_true rfl, Nat.le_of_ble_eq_true rfl⟩ (pVw (hP.sub [1, 2, 3, 4, 5, 6, 7, 8, 9, 10] rfl) (hD.sub [1, 2, 3, 4, 5, 6, 7, 8, 9, 10] (by decide) rfl) hK hNw 0 rfl rfl) hl.1 rfl (Nat.le_of_ble_eq_true rfl) dX6_mend_17 ⟨Nat.le_of_ble_eq_true rfl, Nat.le_of_ble_eq_true rfl⟩ rfl rfl rfl) hP hD hS hA [1, 2, 3, 4, 5, 6, 7, 8, 9, 10] [0] rfl rfl (by decide) (by decide) (fun H locs hP hD hS => ?_)
      have hP : va_P D vwCl [((ax 0), .inr (6, [.ref (am 0), .ref (af 0), .ref (ap 0), .ref (ab 0), .ref (ar 0)])), ((ab 0), .inr (0, [.ref (ab 1), .ref (ab 2), .ref (ab 3), .ref (ab 4), .ref (ab 5), .int ((uM Bk 4 (upd (Bk 4) L 1)) 8 0), .int ((uM Bk 4 (upd (Bk 4) L 1)) 8 1)])), ((ab 1), eI C 60 ((uM Bk 4 (upd (Bk 4) L 1)) 0)), ((ab 2), eI C 60 ((uM Bk 4 (upd (Bk 4) L 1)) 1)), ((ab 3), eI C 60 ((uM Bk 4 (upd (Bk 4) L 1)) 2)), ((ab 4), eZ C 60 ((uM Bk 4 (upd (Bk 4) L 1)) 3)), ((ab 5), eII C 4 (rr ab 6 4)), ((ab 6), eI C 61 ((uM Bk 4 (upd (Bk 4) L 1)) 4)), ((ab 7), eI C 61 ((uM Bk 4 (upd (Bk 4) L 1)) 5)), ((ab 8), eI C 61 ((uM Bk 4 (upd (Bk 4) L 1)) 6)), ((ab 9), eI C 61 ((uM Bk 4 (upd (Bk 4) L 1)) 7))] H := hP
      have hD : va_D A [((ax 0), .inr (6, [.ref (am 0), .ref (af 0), .ref (ap 0), .ref (ab 0), .ref (ar 0)])), ((ab 0), .inr (0, [.ref (ab 1), .ref (ab 2), .ref (ab 3), .ref (ab 4), .ref (ab 5), .int ((uM Bk 4 (upd (Bk 4) L 1)) 8 0), .int ((uM Bk 4 (upd (Bk 4) L 1)) 8 1)])), ((ab 1), eI C 60 ((uM Bk 4 (upd (Bk 4) L 1)) 0)), ((ab 2), eI C 60 ((uM Bk 4 (upd (Bk 4) L 1)) 1)), ((ab 3), eI C 60 ((uM Bk 4 (upd (Bk 4) L 1)) 2)), ((ab 4), eZ C 60 ((uM Bk 4 (upd (Bk 4) L 1)) 3)), ((ab 5), eII C 4 (rr ab 6 4)), ((ab 6), eI C 61 ((uM Bk 4 (upd (Bk 4) L 1)) 4)), ((ab 7), eI C 61 ((uM Bk 4 (upd (Bk 4) L 1)) 5)), ((ab 8), eI C 61 ((uM Bk 4 (upd (Bk 4) L 1)) 6)), ((ab 9), eI C 61 ((uM Bk 4 (upd (Bk 4) L 1)) 7))] := hD
      refine lv_iconst (v := 1) hx hb dX6_mend_20 (by decide) ?_
      have hb_0 : (f6_mend_Bk Bk L 0) = uM Bk 4 (upd (Bk 4) L 1) := (by simp only [f6_mend, f6_mend_Bk, if_pos c_1, if_pos hz_0_0, if_true, if_false, ↓reduceIte])
      have hP9 : va_P D vwCl (((wX ax am af ap ab ar) ++ (wB ab C (f6_mend_Bk Bk L 0)))) H := by rw [hb_0]; exact hP
      have hD9 : va_D A (((wX ax am af ap ab ar) ++ (wB ab C (f6_mend_Bk Bk L 0)))) := by rw [hb_0]; exact hD
      exact W.iret (v := 1) hx hb hr (fun t ht _ => ⟨⟨_, (), rfl, (by simp only [f6_mend, f6_mend_Bk, if_pos c_1, if_pos hz_0_0, if_true, if_false, ↓reduceIte]), ⟨by rw [ht]; exact hP9, by rw [hAe]; exact hD9⟩⟩, hS.F ht⟩) hS.2.2 dX6_mend_21
    · have hz_1_0 : ¬ (1 : Int32) = 0 := by decide
      have hz_1_1 : (1 : Int32) = 1 := rfl
      refine lv_aload_n hx hb dX6_mend_12 rfl (lv_at hl 0 rfl) ?_
      refine va_get (D := D) (ci := 6) (C := RX6) (T := TX6) (N := 5) hx hb hW inX6 hown hK hP 0 rfl rfl 3 (by decide) (hW _ (wa tw240 rfl)) (fun _ h9 => h9) rfl dX6_mend_13 ?_
      refine lv_iload_n hx hb dX6_mend_16 rfl (lv_at hl 1 rfl) ?_
      refine xwv (wr := [((ax 0), .inr (6, [.ref (am 0), .ref (af 0), .ref (ap 0), .ref (ab 0), .ref (ar 0)]))]) (rVN (As := [.int 1]) (n := 1) (rest := []) ⟨hx, hb, hml, hown, hW⟩ (kX0_setMended_1 l D C ab Bk  s.heap.size L hL hL60) (wa tw488 rfl) (hNw _ tw485 rfl) (wa tw487 rfl) (was ts31 rfl) (wa tw6 rfl) (by decide +kernel) ⟨Nat.le_of_ble_eq_true rfl, Nat.le_of_ble_eq_true rfl⟩ (pVw (hP.sub [1, 2, 3, 4, 5, 6, 7, 8, 9, 10] rfl) (hD.sub [1, 2, 3, 4, 5, 6, 7, 8, 9, 10] (by decide) rfl) hK hNw 0 rfl rfl) hl.1 rfl (Nat.le_of_ble_eq_true rfl) dX6_mend_17 ⟨Nat.le_of_ble_eq_true rfl, Nat.le_of_ble_eq_true rfl⟩ rfl rfl rfl) hP hD hS hA [1, 2, 3, 4, 5, 6, 7, 8, 9, 10] [0] rfl rfl (by decide) (by decide) (fun H locs hP hD hS => ?_)
      have hP : va_P D vwCl [((ax 0), .inr (6, [.ref (am 0), .ref (af 0), .ref (ap 0), .ref (ab 0), .ref (ar 0)])), ((ab 0), .inr (0, [.ref (ab 1), .ref (ab 2), .ref (ab 3), .ref (ab 4), .ref (ab 5), .int ((uM Bk 5 (upd (Bk 5) L 1)) 8 0), .int ((uM Bk 5 (upd (Bk 5) L 1)) 8 1)])), ((ab 1), eI C 60 ((uM Bk 5 (upd (Bk 5) L 1)) 0)), ((ab 2), eI C 60 ((uM Bk 5 (upd (Bk 5) L 1)) 1)), ((ab 3), eI C 60 ((uM Bk 5 (upd (Bk 5) L 1)) 2)), ((ab 4), eZ C 60 ((uM Bk 5 (upd (Bk 5) L 1)) 3)), ((ab 5), eII C 4 (rr ab 6 4)), ((ab 6), eI C 61 ((uM Bk 5 (upd (Bk 5) L 1)) 4)), ((ab 7), eI C 61 ((uM Bk 5 (upd (Bk 5) L 1)) 5)), ((ab 8), eI C 61 ((uM Bk 5 (upd (Bk 5) L 1)) 6)), ((ab 9), eI C 61 ((uM Bk 5 (upd (Bk 5) L 1)) 7))] H := hP
      have hD : va_D A [((ax 0), .inr (6, [.ref (am 0), .ref (af 0), .ref (ap 0), .ref (ab 0), .ref (ar 0)])), ((ab 0), .inr (0, [.ref (ab 1), .ref (ab 2), .ref (ab 3), .ref (ab 4), .ref (ab 5), .int ((uM Bk 5 (upd (Bk 5) L 1)) 8 0), .int ((uM Bk 5 (upd (Bk 5) L 1)) 8 1)])), ((ab 1), eI C 60 ((uM Bk 5 (upd (Bk 5) L 1)) 0)), ((ab 2), eI C 60 ((uM Bk 5 (upd (Bk 5) L 1)) 1)), ((ab 3), eI C 60 ((uM Bk 5 (upd (Bk 5) L 1)) 2)), ((ab 4), eZ C 60 ((uM Bk 5 (upd (Bk 5) L 1)) 3)), ((ab 5), eII C 4 (rr ab 6 4)), ((ab 6), eI C 61 ((uM Bk 5 (upd (Bk 5) L 1)) 4)), ((ab 7), eI C 61 ((uM Bk 5 (upd (Bk 5) L 1)) 5)), ((ab 8), eI C 61 ((uM Bk 5 (upd (Bk 5) L 1)) 6)), ((ab 9), eI C 61 ((uM Bk 5 (upd (Bk 5) L 1)) 7))] := hD
      refine lv_iconst (v := 1) hx hb dX6_mend_20 (by decide) ?_
      have hb_0 : (f6_mend_Bk Bk L 1) = uM Bk 5 (upd (Bk 5) L 1) := (by simp only [f6_mend, f6_mend_Bk, if_pos c_1, if_neg hz_1_0, if_pos hz_1_1, if_true, if_false, ↓reduceIte])
      have hP9 : va_P D vwCl (((wX ax am af ap ab ar) ++ (wB ab C (f6_mend_Bk Bk L 1)))) H := by rw [hb_0]; exact hP
      have hD9 : va_D A (((wX ax am af ap ab ar) ++ (wB ab C (f6_mend_Bk Bk L 1)))) := by rw [hb_0]; exact hD
      exact W.iret (v := 1) hx hb hr (fun t ht _ => ⟨⟨_, (), rfl, (by simp only [f6_mend, f6_mend_Bk, if_pos c_1, if_neg hz_1_0, if_pos hz_1_1, if_true, if_false, ↓reduceIte]), ⟨by rw [ht]; exact hP9, by rw [hAe]; exact hD9⟩⟩, hS.F ht⟩) hS.2.2 dX6_mend_21
    · have hz_2_0 : ¬ (2 : Int32) = 0 := by decide
      have hz_2_1 : ¬ (2 : Int32) = 1 := by decide
      have hz_2_2 : (2 : Int32) = 2 := rfl
      refine lv_aload_n hx hb dX6_mend_12 rfl (lv_at hl 0 rfl) ?_
      refine va_get (D := D) (ci := 6) (C := RX6) (T := TX6) (N := 5) hx hb hW inX6 hown hK hP 0 rfl rfl 3 (by decide) (hW _ (wa tw240 rfl)) (fun _ h9 => h9) rfl dX6_mend_13 ?_
      refine lv_iload_n hx hb dX6_mend_16 rfl (lv_at hl 1 rfl) ?_
      refine xwv (wr := [((ax 0), .inr (6, [.ref (am 0), .ref (af 0), .ref (ap 0), .ref (ab 0), .ref (ar 0)]))]) (rVN (As := [.int 2]) (n := 1) (rest := []) ⟨hx, hb, hml, hown, hW⟩ (kX0_setMended_2 l D C ab Bk  s.heap.size L hL hL60) (wa tw488 rfl) (hNw _ tw485 rfl) (wa tw487 rfl) (was ts31 rfl) (wa tw6 rfl) (by decide +kernel) ⟨Nat.le_of_ble_eq_true rfl, Nat.le_of_ble_eq_true rfl⟩ (pVw (hP.sub [1, 2, 3, 4, 5, 6, 7, 8, 9, 10] rfl) (hD.sub [1, 2, 3, 4, 5, 6, 7, 8, 9, 10] (by decide) rfl) hK hNw 0 rfl rfl) hl.1 rfl (Nat.le_of_ble_eq_true rfl) dX6_mend_17 ⟨Nat.le_of_ble_eq_true rfl, Nat.le_of_ble_eq_true rfl⟩ rfl rfl rfl) hP hD hS hA [1, 2, 3, 4, 5, 6, 7, 8, 9, 10] [0] rfl rfl (by decide) (by decide) (fun H locs hP hD hS => ?_)
      have hP : va_P D vwCl [((ax 0), .inr (6, [.ref (am 0), .ref (af 0), .ref (ap 0), .ref (ab 0), .ref (ar 0)])), ((ab 0), .inr (0, [.ref (ab 1), .ref (ab 2), .ref (ab 3), .ref (ab 4), .ref (ab 5), .int ((uM Bk 6 (upd (Bk 6) L 1)) 8 0), .int ((uM Bk 6 (upd (Bk 6) L 1)) 8 1)])), ((ab 1), eI C 60 ((uM Bk 6 (upd (Bk 6) L 1)) 0)), ((ab 2), eI C 60 ((uM Bk 6 (upd (Bk 6) L 1)) 1)), ((ab 3), eI C 60 ((uM Bk 6 (upd (Bk 6) L 1)) 2)), ((ab 4), eZ C 60 ((uM Bk 6 (upd (Bk 6) L 1)) 3)), ((ab 5), eII C 4 (rr ab 6 4)), ((ab 6), eI C 61 ((uM Bk 6 (upd (Bk 6) L 1)) 4)), ((ab 7), eI C 61 ((uM Bk 6 (upd (Bk 6) L 1)) 5)), ((ab 8), eI C 61 ((uM Bk 6 (upd (Bk 6) L 1)) 6)), ((ab 9), eI C 61 ((uM Bk 6 (upd (Bk 6) L 1)) 7))] H := hP
      have hD : va_D A [((ax 0), .inr (6, [.ref (am 0), .ref (af 0), .ref (ap 0), .ref (ab 0), .ref (ar 0)])), ((ab 0), .inr (0, [.ref (ab 1), .ref (ab 2), .ref (ab 3), .ref (ab 4), .ref (ab 5), .int ((uM Bk 6 (upd (Bk 6) L 1)) 8 0), .int ((uM Bk 6 (upd (Bk 6) L 1)) 8 1)])), ((ab 1), eI C 60 ((uM Bk 6 (upd (Bk 6) L 1)) 0)), ((ab 2), eI C 60 ((uM Bk 6 (upd (Bk 6) L 1)) 1)), ((ab 3), eI C 60 ((uM Bk 6 (upd (Bk 6) L 1)) 2)), ((ab 4), eZ C 60 ((uM Bk 6 (upd (Bk 6) L 1)) 3)), ((ab 5), eII C 4 (rr ab 6 4)), ((ab 6), eI C 61 ((uM Bk 6 (upd (Bk 6) L 1)) 4)), ((ab 7), eI C 61 ((uM Bk 6 (upd (Bk 6) L 1)) 5)), ((ab 8), eI C 61 ((uM Bk 6 (upd (Bk 6) L 1)) 6)), ((ab 9), eI C 61 ((uM Bk 6 (upd (Bk 6) L 1)) 7))] := hD
      refine lv_iconst (v := 1) hx hb dX6_mend_20 (by decide) ?_
      have hb_0 : (f6_mend_Bk Bk L 2) = uM Bk 6 (upd (Bk 6) L 1) := (by simp only [f6_mend, f6_mend_Bk, if_pos c_1, if_neg hz_2_0, if_neg hz_2_1, if_pos hz_2_2, if_true, if_false, ↓reduceIte])
      have hP9 : va_P D vwCl (((wX ax am af ap ab ar) ++ (wB ab C (f6_mend_Bk Bk L 2)))) H := by rw [hb_0]; exact hP
      have hD9 : va_D A (((wX ax am af ap ab ar) ++ (wB ab C (f6_mend_Bk Bk L 2)))) := by rw [hb_0]; exact hD
      exact W.iret (v := 1) hx hb hr (fun t ht _ => ⟨⟨_, (), rfl, (by simp only [f6_mend, f6_mend_Bk, if_pos c_1, if_neg hz_2_0, if_neg hz_2_1, if_pos hz_2_2, if_true, if_false, ↓reduceIte]), ⟨by rw [ht]; exact hP9, by rw [hAe]; exact hD9⟩⟩, hS.F ht⟩) hS.2.2 dX6_mend_21
    · have hz_3_0 : ¬ (3 : Int32) = 0 := by decide
      have hz_3_1 : ¬ (3 : Int32) = 1 := by decide
      have hz_3_2 : ¬ (3 : Int32) = 2 := by decide
      refine lv_aload_n hx hb dX6_mend_12 rfl (lv_at hl 0 rfl) ?_
      refine va_get (D := D) (ci := 6) (C := RX6) (T := TX6) (N := 5) hx hb hW inX6 hown hK hP 0 rfl rfl 3 (by decide) (hW _ (wa tw240 rfl)) (fun _ h9 => h9) rfl dX6_mend_13 ?_
      refine lv_iload_n hx hb dX6_mend_16 rfl (lv_at hl 1 rfl) ?_
      refine xwv (wr := [((ax 0), .inr (6, [.ref (am 0), .ref (af 0), .ref (ap 0), .ref (ab 0), .ref (ar 0)]))]) (rVN (As := [.int 3]) (n := 1) (rest := []) ⟨hx, hb, hml, hown, hW⟩ (kX0_setMended_3 l D C ab Bk  s.heap.size L hL hL60) (wa tw488 rfl) (hNw _ tw485 rfl) (wa tw487 rfl) (was ts31 rfl) (wa tw6 rfl) (by decide +kernel) ⟨Nat.le_of_ble_eq_true rfl, Nat.le_of_ble_eq_true rfl⟩ (pVw (hP.sub [1, 2, 3, 4, 5, 6, 7, 8, 9, 10] rfl) (hD.sub [1, 2, 3, 4, 5, 6, 7, 8, 9, 10] (by decide) rfl) hK hNw 0 rfl rfl) hl.1 rfl (Nat.le_of_ble_eq_true rfl) dX6_mend_17 ⟨Nat.le_of_ble_eq_true rfl, Nat.le_of_ble_eq_true rfl⟩ rfl rfl rfl) hP hD hS hA [1, 2, 3, 4, 5, 6, 7, 8, 9, 10] [0] rfl rfl (by decide) (by decide) (fun H locs hP hD hS => ?_)
      have hP : va_P D vwCl [((ax 0), .inr (6, [.ref (am 0), .ref (af 0), .ref (ap 0), .ref (ab 0), .ref (ar 0)])), ((ab 0), .inr (0, [.ref (ab 1), .ref (ab 2), .ref (ab 3), .ref (ab 4), .ref (ab 5), .int ((uM Bk 7 (upd (Bk 7) L 1)) 8 0), .int ((uM Bk 7 (upd (Bk 7) L 1)) 8 1)])), ((ab 1), eI C 60 ((uM Bk 7 (upd (Bk 7) L 1)) 0)), ((ab 2), eI C 60 ((uM Bk 7 (upd (Bk 7) L 1)) 1)), ((ab 3), eI C 60 ((uM Bk 7 (upd (Bk 7) L 1)) 2)), ((ab 4), eZ C 60 ((uM Bk 7 (upd (Bk 7) L 1)) 3)), ((ab 5), eII C 4 (rr ab 6 4)), ((ab 6), eI C 61 ((uM Bk 7 (upd (Bk 7) L 1)) 4)), ((ab 7), eI C 61 ((uM Bk 7 (upd (Bk 7) L 1)) 5)), ((ab 8), eI C 61 ((uM Bk 7 (upd (Bk 7) L 1)) 6)), ((ab 9), eI C 61 ((uM Bk 7 (upd (Bk 7) L 1)) 7))] H := hP
      have hD : va_D A [((ax 0), .inr (6, [.ref (am 0), .ref (af 0), .ref (ap 0), .ref (ab 0), .ref (ar 0)])), ((ab 0), .inr (0, [.ref (ab 1), .ref (ab 2), .ref (ab 3), .ref (ab 4), .ref (ab 5), .int ((uM Bk 7 (upd (Bk 7) L 1)) 8 0), .int ((uM Bk 7 (upd (Bk 7) L 1)) 8 1)])), ((ab 1), eI C 60 ((uM Bk 7 (upd (Bk 7) L 1)) 0)), ((ab 2), eI C 60 ((uM Bk 7 (upd (Bk 7) L 1)) 1)), ((ab 3), eI C 60 ((uM Bk 7 (upd (Bk 7) L 1)) 2)), ((ab 4), eZ C 60 ((uM Bk 7 (upd (Bk 7) L 1)) 3)), ((ab 5), eII C 4 (rr ab 6 4)), ((ab 6), eI C 61 ((uM Bk 7 (upd (Bk 7) L 1)) 4)), ((ab 7), eI C 61 ((uM Bk 7 (upd (Bk 7) L 1)) 5)), ((ab 8), eI C 61 ((uM Bk 7 (upd (Bk 7) L 1)) 6)), ((ab 9), eI C 61 ((uM Bk 7 (upd (Bk 7) L 1)) 7))] := hD
      refine lv_iconst (v := 1) hx hb dX6_mend_20 (by decide) ?_
      have hb_0 : (f6_mend_Bk Bk L 3) = uM Bk 7 (upd (Bk 7) L 1) := (by simp only [f6_mend, f6_mend_Bk, if_pos c_1, if_neg hz_3_0, if_neg hz_3_1, if_neg hz_3_2, if_true, if_false, ↓reduceIte])
      have hP9 : va_P D vwCl (((wX ax am af ap ab ar) ++ (wB ab C (f6_mend_Bk Bk L 3)))) H := by rw [hb_0]; exact hP
      have hD9 : va_D A (((wX ax am af ap ab ar) ++ (wB ab C (f6_mend_Bk Bk L 3)))) := by rw [hb_0]; exact hD
      exact W.iret (v := 1) hx hb hr (fun t ht _ => ⟨⟨_, (), rfl, (by simp only [f6_mend, f6_mend_Bk, if_pos c_1, if_neg hz_3_0, if_neg hz_3_1, if_neg hz_3_2, if_true, if_false, ↓reduceIte]), ⟨by rw [ht]; exact hP9, by rw [hAe]; exact hD9⟩⟩, hS.F ht⟩) hS.2.2 dX6_mend_21
  · refine lv_ldc hx hb hown (hW _ (wa tw274 rfl)) dX6_mend_9 ?_
    have hb_0 : (f6_mend_Bk Bk L tool) = Bk := (by simp only [f6_mend, f6_mend_Bk, if_neg c_1])
    have hP9 : va_P D vwCl (((wX ax am af ap ab ar) ++ (wB ab C (f6_mend_Bk Bk L tool)))) s.heap := by rw [hb_0]; exact hP
    have hD9 : va_D A (((wX ax am af ap ab ar) ++ (wB ab C (f6_mend_Bk Bk L tool)))) := by rw [hb_0]; exact hD
    exact W.iret (v := (-100001)) hx hb hr (fun t ht _ => ⟨⟨_, (), rfl, (by simp only [f6_mend, f6_mend_Bk, if_neg c_1]), ⟨by rw [ht]; exact hP9, by rw [hAe]; exact hD9⟩⟩, hS.F ht⟩) hS.2.2 dX6_mend_11

def f6_gain (Bk : Nat → Nat → Int32) (v : Int32) : Int32 := (if (f6_outside v 1 16) = 0 then (Bk 8 1) else ((-100002)))
def f6_gain_Bk (Bk : Nat → Nat → Int32) (v : Int32) : Nat → Nat → Int32 := (if (f6_outside v 1 16) = 0 then (uM Bk 8 (upd (Bk 8) 1 v)) else (Bk))
set_option maxHeartbeats 4000000 in
set_option maxRecDepth 100000 in
theorem kX6_gain (l : Launch) (D : va_G) (C : Nat → ClassId) (ax am af ap ab ar : Nat → Nat) (Bk : Nat → Nat → Int32) (v : Int32) (sz : Nat)  : Wi l D C yX6_gain cX6_gain 3 .int 1 [.ref (ax 0), .int v] ((wX ax am af ap ab ar) ++ (wB ab C Bk)) (((wX ax am af ap ab ar) ++ (wB ab C (f6_gain_Bk Bk v)))) (f6_gain Bk v) sz := by
  refine Met.ofW (cc := cX6_gain) (maxL := 3) (ret := (some .int)) (by decide) rfl ?_
  intro p e s m args below meth c s₁ B hml hv
  obtain ⟨rfl, hsz, hP, hK, hNw, hD0⟩ := hv
  have hx := B.exec
  have hb := B.bytes
  have hr := B.returns
  have hts := atoms_spec (ws := wm yX6_gain cX6_gain 3 (some .int)) B.pre
  have hown : s.vm.findClass RX6 = some m.cls := findClass_of_methodNamed B.named
  have hlocks := B.notSynchronized
  have hW : ∀ w ∈ WA, w.before _ s = true := fun w h => hts w (List.mem_cons_of_mem _ h)
  subst hsz
  have hD := hD0.self (sz := s.heap.size)
  generalize hAe : va_A ((wX ax am af ap ab ar) ++ (wB ab C Bk)) s.heap.size = A at hD ⊢
  have hA : ∀ q : Nat, s.heap.size ≤ q → A q := fun q h => by rw [← hAe]; exact Or.inr h
  have hS : va_S A s.heap s.heap [] := va_S.rf
  have hP : va_P D vwCl [((ax 0), .inr (6, [.ref (am 0), .ref (af 0), .ref (ap 0), .ref (ab 0), .ref (ar 0)])), ((ab 0), .inr (0, [.ref (ab 1), .ref (ab 2), .ref (ab 3), .ref (ab 4), .ref (ab 5), .int (Bk 8 0), .int (Bk 8 1)])), ((ab 1), eI C 60 (Bk 0)), ((ab 2), eI C 60 (Bk 1)), ((ab 3), eI C 60 (Bk 2)), ((ab 4), eZ C 60 (Bk 3)), ((ab 5), eII C 4 (rr ab 6 4)), ((ab 6), eI C 61 (Bk 4)), ((ab 7), eI C 61 (Bk 5)), ((ab 8), eI C 61 (Bk 6)), ((ab 9), eI C 61 (Bk 7))] s.heap := hP
  have hD : va_D A [((ax 0), .inr (6, [.ref (am 0), .ref (af 0), .ref (ap 0), .ref (ab 0), .ref (ar 0)])), ((ab 0), .inr (0, [.ref (ab 1), .ref (ab 2), .ref (ab 3), .ref (ab 4), .ref (ab 5), .int (Bk 8 0), .int (Bk 8 1)])), ((ab 1), eI C 60 (Bk 0)), ((ab 2), eI C 60 (Bk 1)), ((ab 3), eI C 60 (Bk 2)), ((ab 4), eZ C 60 (Bk 3)), ((ab 5), eII C 4 (rr ab 6 4)), ((ab 6), eI C 61 (Bk 4)), ((ab 7), eI C 61 (Bk 5)), ((ab 8), eI C 61 (Bk 6)), ((ab 9), eI C 61 (Bk 7))] := hD
  have hl := lv_entry ([.ref (ax 0), .int v]) (n := 3) (Nat.le_of_ble_eq_true rfl)
  rw [lg_entry_eq]
  generalize (lg_sl ([.ref (ax 0), .int v]) ++ List.replicate (3 - (lg_sl ([.ref (ax 0), .int v])).length) Slot.unset).toArray = ls at hl ⊢
  have hl : lv_has ls 3 [(0, .ref (ax 0)), (1, .int v)] := hl
  refine lv_iload_n hx hb dX6_gain_0 rfl (lv_at hl 1 rfl) ?_
  refine lv_iconst (v := 1) hx hb dX6_gain_1 (by decide) ?_
  refine lv_bipush (v := 16) hx hb dX6_gain_2 (by decide) ?_
  refine xri (r := f6_outside v 1 16) (rS (As := [.int v, .int 1, .int 16]) (n := 3) (rest := []) ⟨hx, hb, hml, hown, hW⟩ (kX6_outside l v 1 16) (wa tw259 rfl) (wa tw257 rfl) (wa tw258 rfl) (wa tw1 rfl) (by decide +kernel) ⟨Nat.le_of_ble_eq_true rfl, Nat.le_of_ble_eq_true rfl⟩ pS0 hl.1 rfl (Nat.le_of_ble_eq_true rfl) dX6_gain_4 ⟨Nat.le_of_ble_eq_true rfl, Nat.le_of_ble_eq_true rfl⟩ rfl rfl rfl) ?_
  refine lv_if_eq (tgt := 13) hx hb dX6_gain_7 (by decide) (fun c_1 => ?_) (fun c_1 => ?_)
  · refine lv_aload_n hx hb dX6_gain_13 rfl (lv_at hl 0 rfl) ?_
    refine va_get (D := D) (ci := 6) (C := RX6) (T := TX6) (N := 5) hx hb hW inX6 hown hK hP 0 rfl rfl 3 (by decide) (hW _ (wa tw240 rfl)) (fun _ h9 => h9) rfl dX6_gain_14 ?_
    refine va_getN (D := D) (host := "FieldAfterField") (ci := 0) (C := RX0) (T := TX0) (N := 7) hx hb hW inX0 hown hK hP 1 rfl rfl 6 (by decide) (va_Nw.use rfl (hNw _ tw186 rfl)) (fun _ h9 => h9) rfl dX6_gain_17 ?_
    refine lv_istore_n (lv' := [(2, .int (Bk 8 1)), (0, .ref (ax 0)), (1, .int v)]) hx hb dX6_gain_20 rfl hl (by decide) rfl (fun ls hl => ?_)
    refine lv_aload_n hx hb dX6_gain_21 rfl (lv_at hl 1 rfl) ?_
    refine va_get (D := D) (ci := 6) (C := RX6) (T := TX6) (N := 5) hx hb hW inX6 hown hK hP 0 rfl rfl 3 (by decide) (hW _ (wa tw240 rfl)) (fun _ h9 => h9) rfl dX6_gain_22 ?_
    refine lv_iload_n hx hb dX6_gain_25 rfl (lv_at hl 2 rfl) ?_
    refine va_putN (D := D) (v := .int v) (ty := .int) (host := "FieldAfterField") (ci := 0) (C := RX0) (T := TX0) (N := 7) hx hb hW inX0 tyX0 tyX0_ok nmX0 hown hK hP hD hS 1 rfl rfl 6 (by decide) (va_Nw.use rfl (hNw _ tw186 rfl)) (fun _ h9 => h9) rfl (by decide +kernel) rfl rfl (Nat.le_of_ble_eq_true rfl) dX6_gain_26 (fun H locs hP hD hS => ?_)
    have hP : va_P D vwCl [((ax 0), .inr (6, [.ref (am 0), .ref (af 0), .ref (ap 0), .ref (ab 0), .ref (ar 0)])), ((ab 0), .inr (0, [.ref (ab 1), .ref (ab 2), .ref (ab 3), .ref (ab 4), .ref (ab 5), .int (Bk 8 0), .int v])), ((ab 1), eI C 60 (Bk 0)), ((ab 2), eI C 60 (Bk 1)), ((ab 3), eI C 60 (Bk 2)), ((ab 4), eZ C 60 (Bk 3)), ((ab 5), eII C 4 (rr ab 6 4)), ((ab 6), eI C 61 (Bk 4)), ((ab 7), eI C 61 (Bk 5)), ((ab 8), eI C 61 (Bk 6)), ((ab 9), eI C 61 (Bk 7))] H := hP
    have hD : va_D A [((ax 0), .inr (6, [.ref (am 0), .ref (af 0), .ref (ap 0), .ref (ab 0), .ref (ar 0)])), ((ab 0), .inr (0, [.ref (ab 1), .ref (ab 2), .ref (ab 3), .ref (ab 4), .ref (ab 5), .int (Bk 8 0), .int v])), ((ab 1), eI C 60 (Bk 0)), ((ab 2), eI C 60 (Bk 1)), ((ab 3), eI C 60 (Bk 2)), ((ab 4), eZ C 60 (Bk 3)), ((ab 5), eII C 4 (rr ab 6 4)), ((ab 6), eI C 61 (Bk 4)), ((ab 7), eI C 61 (Bk 5)), ((ab 8), eI C 61 (Bk 6)), ((ab 9), eI C 61 (Bk 7))] := hD
    refine lv_iload_n hx hb dX6_gain_29 rfl (lv_at hl 0 rfl) ?_
    have hb_0 : (f6_gain_Bk Bk v) = uM Bk 8 (upd (Bk 8) 1 v) := (by simp only [f6_gain, f6_gain_Bk, if_pos c_1])
    have hP9 : va_P D vwCl (((wX ax am af ap ab ar) ++ (wB ab C (f6_gain_Bk Bk v)))) H := by rw [hb_0]; exact hP
    have hD9 : va_D A (((wX ax am af ap ab ar) ++ (wB ab C (f6_gain_Bk Bk v)))) := by rw [hb_0]; exact hD
    exact W.iret (v := Bk 8 1) hx hb hr (fun t ht _ => ⟨⟨_, (), rfl, (by simp only [f6_gain, f6_gain_Bk, if_pos c_1]), ⟨by rw [ht]; exact hP9, by rw [hAe]; exact hD9⟩⟩, hS.F ht⟩) hS.2.2 dX6_gain_30
  · refine lv_ldc hx hb hown (hW _ (wa tw260 rfl)) dX6_gain_10 ?_
    have hb_0 : (f6_gain_Bk Bk v) = Bk := (by simp only [f6_gain, f6_gain_Bk, if_neg c_1])
    have hP9 : va_P D vwCl (((wX ax am af ap ab ar) ++ (wB ab C (f6_gain_Bk Bk v)))) s.heap := by rw [hb_0]; exact hP
    have hD9 : va_D A (((wX ax am af ap ab ar) ++ (wB ab C (f6_gain_Bk Bk v)))) := by rw [hb_0]; exact hD
    exact W.iret (v := (-100002)) hx hb hr (fun t ht _ => ⟨⟨_, (), rfl, (by simp only [f6_gain, f6_gain_Bk, if_neg c_1]), ⟨by rw [ht]; exact hP9, by rw [hAe]; exact hD9⟩⟩, hS.F ht⟩) hS.2.2 dX6_gain_12

def f6_state (Bk : Nat → Nat → Int32) (tool n : Int32) : Int32 := (if (f6_outside tool 0 3) = 0 then (if (f6_outside n 0 (Bk 8 0)) = 0 then (if tool = 0 then (f0_state Bk (Bk 4) 0 (ix n)) else (if tool = 1 then (f0_state Bk (Bk 5) 1 (ix n)) else (if tool = 2 then (f0_state Bk (Bk 6) 2 (ix n)) else (f0_state Bk (Bk 7) 3 (ix n))))) else ((-100002))) else ((-100001)))
set_option maxHeartbeats 4000000 in
set_option maxRecDepth 100000 in
theorem kX6_state (l : Launch) (D : va_G) (C : Nat → ClassId) (ax am af ap ab ar : Nat → Nat) (Bk : Nat → Nat → Int32) (tool n : Int32) (L : Nat) (hL : Bk 8 0 = nI L) (hL60 : L ≤ 60) : Ri l D C yX6_state cX6_state 3 .int 1 [.ref (ax 0), .int tool, .int n] ((wX ax am af ap ab ar) ++ (wB ab C Bk)) (f6_state Bk tool n) := by
  refine Met.ofW (cc := cX6_state) (maxL := 3) (ret := (some .int)) (by decide) rfl ?_
  intro p e s m args below meth c s₁ B hml hv
  obtain ⟨rfl, hP, hK, hNw⟩ := hv
  have hx := B.exec
  have hb := B.bytes
  have hr := B.returns
  have hts := atoms_spec (ws := wm yX6_state cX6_state 3 (some .int)) B.pre
  have hown : s.vm.findClass RX6 = some m.cls := findClass_of_methodNamed B.named
  have hlocks := B.notSynchronized
  have hW : ∀ w ∈ WA, w.before _ s = true := fun w h => hts w (List.mem_cons_of_mem _ h)
  have hP : va_P D vwCl [((ax 0), .inr (6, [.ref (am 0), .ref (af 0), .ref (ap 0), .ref (ab 0), .ref (ar 0)])), ((ab 0), .inr (0, [.ref (ab 1), .ref (ab 2), .ref (ab 3), .ref (ab 4), .ref (ab 5), .int (Bk 8 0), .int (Bk 8 1)])), ((ab 1), eI C 60 (Bk 0)), ((ab 2), eI C 60 (Bk 1)), ((ab 3), eI C 60 (Bk 2)), ((ab 4), eZ C 60 (Bk 3)), ((ab 5), eII C 4 (rr ab 6 4)), ((ab 6), eI C 61 (Bk 4)), ((ab 7), eI C 61 (Bk 5)), ((ab 8), eI C 61 (Bk 6)), ((ab 9), eI C 61 (Bk 7))] s.heap := hP
  have hl := lv_entry ([.ref (ax 0), .int tool, .int n]) (n := 3) (Nat.le_of_ble_eq_true rfl)
  rw [lg_entry_eq]
  generalize (lg_sl ([.ref (ax 0), .int tool, .int n]) ++ List.replicate (3 - (lg_sl ([.ref (ax 0), .int tool, .int n])).length) Slot.unset).toArray = ls at hl ⊢
  have hl : lv_has ls 3 [(0, .ref (ax 0)), (1, .int tool), (2, .int n)] := hl
  refine lv_iload_n hx hb dX6_state_0 rfl (lv_at hl 1 rfl) ?_
  refine lv_iconst (v := 0) hx hb dX6_state_1 (by decide) ?_
  refine lv_iconst (v := 3) hx hb dX6_state_2 (by decide) ?_
  refine xri (r := f6_outside tool 0 3) (rS (As := [.int tool, .int 0, .int 3]) (n := 3) (rest := []) ⟨hx, hb, hml, hown, hW⟩ (kX6_outside l tool 0 3) (wa tw259 rfl) (wa tw257 rfl) (wa tw258 rfl) (wa tw1 rfl) (by decide +kernel) ⟨Nat.le_of_ble_eq_true rfl, Nat.le_of_ble_eq_true rfl⟩ pS0 hl.1 rfl (Nat.le_of_ble_eq_true rfl) dX6_state_3 ⟨Nat.le_of_ble_eq_true rfl, Nat.le_of_ble_eq_true rfl⟩ rfl rfl rfl) ?_
  refine lv_if_eq (tgt := 12) hx hb dX6_state_6 (by decide) (fun c_1 => ?_) (fun c_1 => ?_)
  · refine lv_iload_n hx hb dX6_state_12 rfl (lv_at hl 2 rfl) ?_
    refine lv_iconst (v := 0) hx hb dX6_state_13 (by decide) ?_
    refine lv_aload_n hx hb dX6_state_14 rfl (lv_at hl 0 rfl) ?_
    refine va_get (D := D) (ci := 6) (C := RX6) (T := TX6) (N := 5) hx hb hW inX6 hown hK hP 0 rfl rfl 3 (by decide) (hW _ (wa tw240 rfl)) (fun _ h9 => h9) rfl dX6_state_15 ?_
    refine va_getN (D := D) (host := "FieldAfterField") (ci := 0) (C := RX0) (T := TX0) (N := 7) hx hb hW inX0 hown hK hP 1 rfl rfl 5 (by decide) (va_Nw.use rfl (hNw _ tw184 rfl)) (fun _ h9 => h9) rfl dX6_state_18 ?_
    refine xri (r := f6_outside n 0 (Bk 8 0)) (rS (As := [.int n, .int 0, .int (Bk 8 0)]) (n := 3) (rest := []) ⟨hx, hb, hml, hown, hW⟩ (kX6_outside l n 0 (Bk 8 0)) (wa tw259 rfl) (wa tw257 rfl) (wa tw258 rfl) (wa tw1 rfl) (by decide +kernel) ⟨Nat.le_of_ble_eq_true rfl, Nat.le_of_ble_eq_true rfl⟩ pS0 hl.1 rfl (Nat.le_of_ble_eq_true rfl) dX6_state_21 ⟨Nat.le_of_ble_eq_true rfl, Nat.le_of_ble_eq_true rfl⟩ rfl rfl rfl) ?_
    refine lv_if_eq (tgt := 30) hx hb dX6_state_24 (by decide) (fun c_2 => ?_) (fun c_2 => ?_)
    · obtain ⟨w, hw, rfl⟩ := q_outN (n := L + 1) (by rw [hL, nI_toInt (by omega)]; omega) (by omega) c_2
      have hix_w : ix (nI w) = w := ix_nI (by omega)
      rcases (q_tool c_1) with rfl | rfl | rfl | rfl
      · have hz_0_0 : (0 : Int32) = 0 := rfl
        refine lv_aload_n hx hb dX6_state_30 rfl (lv_at hl 0 rfl) ?_
        refine va_get (D := D) (ci := 6) (C := RX6) (T := TX6) (N := 5) hx hb hW inX6 hown hK hP 0 rfl rfl 3 (by decide) (hW _ (wa tw240 rfl)) (fun _ h9 => h9) rfl dX6_state_31 ?_
        refine lv_iload_n hx hb dX6_state_34 rfl (lv_at hl 1 rfl) ?_
        refine lv_iload_n hx hb dX6_state_35 rfl (lv_at hl 2 rfl) ?_
        refine xri (r := f0_state Bk (Bk 4) 0 w) (rVN (As := [.int 0, .int (nI w)]) (n := 2) (rest := []) ⟨hx, hb, hml, hown, hW⟩ (kX0_stateAhead_0 l D C ab Bk w (by omega)) (wa tw500 rfl) (hNw _ tw497 rfl) (wa tw499 rfl) (was ts32 rfl) (wa tw6 rfl) (by decide +kernel) ⟨Nat.le_of_ble_eq_true rfl, Nat.le_of_ble_eq_true rfl⟩ (pVr (hP.sub [1, 2, 3, 4, 5, 6, 7, 8, 9, 10] rfl) hK hNw 0 rfl rfl) hl.1 rfl (Nat.le_of_ble_eq_true rfl) dX6_state_36 ⟨Nat.le_of_ble_eq_true rfl, Nat.le_of_ble_eq_true rfl⟩ rfl rfl rfl) ?_
        exact W.iret (v := f0_state Bk (Bk 4) 0 w) hx hb hr (fun t ht _ => ⟨_, rfl, (by simp only [f6_state, if_pos c_1, if_pos c_2, if_pos hz_0_0, hix_w, if_true, if_false, ↓reduceIte]), ht⟩) (fun q h => by cases h) dX6_state_39
      · have hz_1_0 : ¬ (1 : Int32) = 0 := by decide
        have hz_1_1 : (1 : Int32) = 1 := rfl
        refine lv_aload_n hx hb dX6_state_30 rfl (lv_at hl 0 rfl) ?_
        refine va_get (D := D) (ci := 6) (C := RX6) (T := TX6) (N := 5) hx hb hW inX6 hown hK hP 0 rfl rfl 3 (by decide) (hW _ (wa tw240 rfl)) (fun _ h9 => h9) rfl dX6_state_31 ?_
        refine lv_iload_n hx hb dX6_state_34 rfl (lv_at hl 1 rfl) ?_
        refine lv_iload_n hx hb dX6_state_35 rfl (lv_at hl 2 rfl) ?_
        refine xri (r := f0_state Bk (Bk 5) 1 w) (rVN (As := [.int 1, .int (nI w)]) (n := 2) (rest := []) ⟨hx, hb, hml, hown, hW⟩ (kX0_stateAhead_1 l D C ab Bk w (by omega)) (wa tw500 rfl) (hNw _ tw497 rfl) (wa tw499 rfl) (was ts32 rfl) (wa tw6 rfl) (by decide +kernel) ⟨Nat.le_of_ble_eq_true rfl, Nat.le_of_ble_eq_true rfl⟩ (pVr (hP.sub [1, 2, 3, 4, 5, 6, 7, 8, 9, 10] rfl) hK hNw 0 rfl rfl) hl.1 rfl (Nat.le_of_ble_eq_true rfl) dX6_state_36 ⟨Nat.le_of_ble_eq_true rfl, Nat.le_of_ble_eq_true rfl⟩ rfl rfl rfl) ?_
        exact W.iret (v := f0_state Bk (Bk 5) 1 w) hx hb hr (fun t ht _ => ⟨_, rfl, (by simp only [f6_state, if_pos c_1, if_pos c_2, if_neg hz_1_0, if_pos hz_1_1, hix_w, if_true, if_false, ↓reduceIte]), ht⟩) (fun q h => by cases h) dX6_state_39
      · have hz_2_0 : ¬ (2 : Int32) = 0 := by decide
        have hz_2_1 : ¬ (2 : Int32) = 1 := by decide
        have hz_2_2 : (2 : Int32) = 2 := rfl
        refine lv_aload_n hx hb dX6_state_30 rfl (lv_at hl 0 rfl) ?_
        refine va_get (D := D) (ci := 6) (C := RX6) (T := TX6) (N := 5) hx hb hW inX6 hown hK hP 0 rfl rfl 3 (by decide) (hW _ (wa tw240 rfl)) (fun _ h9 => h9) rfl dX6_state_31 ?_
        refine lv_iload_n hx hb dX6_state_34 rfl (lv_at hl 1 rfl) ?_
        refine lv_iload_n hx hb dX6_state_35 rfl (lv_at hl 2 rfl) ?_
        refine xri (r := f0_state Bk (Bk 6) 2 w) (rVN (As := [.int 2, .int (nI w)]) (n := 2) (rest := []) ⟨hx, hb, hml, hown, hW⟩ (kX0_stateAhead_2 l D C ab Bk w (by omega)) (wa tw500 rfl) (hNw _ tw497 rfl) (wa tw499 rfl) (was ts32 rfl) (wa tw6 rfl) (by decide +kernel) ⟨Nat.le_of_ble_eq_true rfl, Nat.le_of_ble_eq_true rfl⟩ (pVr (hP.sub [1, 2, 3, 4, 5, 6, 7, 8, 9, 10] rfl) hK hNw 0 rfl rfl) hl.1 rfl (Nat.le_of_ble_eq_true rfl) dX6_state_36 ⟨Nat.le_of_ble_eq_true rfl, Nat.le_of_ble_eq_true rfl⟩ rfl rfl rfl) ?_
        exact W.iret (v := f0_state Bk (Bk 6) 2 w) hx hb hr (fun t ht _ => ⟨_, rfl, (by simp only [f6_state, if_pos c_1, if_pos c_2, if_neg hz_2_0, if_neg hz_2_1, if_pos hz_2_2, hix_w, if_true, if_false, ↓reduceIte]), ht⟩) (fun q h => by cases h) dX6_state_39
      · have hz_3_0 : ¬ (3 : Int32) = 0 := by decide
        have hz_3_1 : ¬ (3 : Int32) = 1 := by decide
        have hz_3_2 : ¬ (3 : Int32) = 2 := by decide
        refine lv_aload_n hx hb dX6_state_30 rfl (lv_at hl 0 rfl) ?_
        refine va_get (D := D) (ci := 6) (C := RX6) (T := TX6) (N := 5) hx hb hW inX6 hown hK hP 0 rfl rfl 3 (by decide) (hW _ (wa tw240 rfl)) (fun _ h9 => h9) rfl dX6_state_31 ?_
        refine lv_iload_n hx hb dX6_state_34 rfl (lv_at hl 1 rfl) ?_
        refine lv_iload_n hx hb dX6_state_35 rfl (lv_at hl 2 rfl) ?_
        refine xri (r := f0_state Bk (Bk 7) 3 w) (rVN (As := [.int 3, .int (nI w)]) (n := 2) (rest := []) ⟨hx, hb, hml, hown, hW⟩ (kX0_stateAhead_3 l D C ab Bk w (by omega)) (wa tw500 rfl) (hNw _ tw497 rfl) (wa tw499 rfl) (was ts32 rfl) (wa tw6 rfl) (by decide +kernel) ⟨Nat.le_of_ble_eq_true rfl, Nat.le_of_ble_eq_true rfl⟩ (pVr (hP.sub [1, 2, 3, 4, 5, 6, 7, 8, 9, 10] rfl) hK hNw 0 rfl rfl) hl.1 rfl (Nat.le_of_ble_eq_true rfl) dX6_state_36 ⟨Nat.le_of_ble_eq_true rfl, Nat.le_of_ble_eq_true rfl⟩ rfl rfl rfl) ?_
        exact W.iret (v := f0_state Bk (Bk 7) 3 w) hx hb hr (fun t ht _ => ⟨_, rfl, (by simp only [f6_state, if_pos c_1, if_pos c_2, if_neg hz_3_0, if_neg hz_3_1, if_neg hz_3_2, hix_w, if_true, if_false, ↓reduceIte]), ht⟩) (fun q h => by cases h) dX6_state_39
    · refine lv_ldc hx hb hown (hW _ (wa tw260 rfl)) dX6_state_27 ?_
      exact W.iret (v := (-100002)) hx hb hr (fun t ht _ => ⟨_, rfl, (by simp only [f6_state, if_pos c_1, if_neg c_2]), ht⟩) (fun q h => by cases h) dX6_state_29
  · refine lv_ldc hx hb hown (hW _ (wa tw274 rfl)) dX6_state_9 ?_
    exact W.iret (v := (-100001)) hx hb hr (fun t ht _ => ⟨_, rfl, (by simp only [f6_state, if_neg c_1]), ht⟩) (fun q h => by cases h) dX6_state_11

def f6_advice (Bk : Nat → Nat → Int32) (L : Nat) (tool : Int32) : Int32 := (if (f6_outside tool 0 3) = 0 then (if tool = 0 then (-((f0_state Bk (Bk 4) 0 L) / 1000)) else (if tool = 1 then (-((f0_state Bk (Bk 5) 1 L) / 1000)) else (if tool = 2 then (-((f0_state Bk (Bk 6) 2 L) / 1000)) else (-((f0_state Bk (Bk 7) 3 L) / 1000))))) else ((-100001)))
set_option maxHeartbeats 4000000 in
set_option maxRecDepth 100000 in
theorem kX6_advice (l : Launch) (D : va_G) (C : Nat → ClassId) (ax am af ap ab ar : Nat → Nat) (Bk : Nat → Nat → Int32) (tool : Int32) (L : Nat) (hL : Bk 8 0 = nI L) (hL60 : L ≤ 60) : Ri l D C yX6_advice cX6_advice 2 .int 1 [.ref (ax 0), .int tool] ((wX ax am af ap ab ar) ++ (wB ab C Bk)) (f6_advice Bk L tool) := by
  refine Met.ofW (cc := cX6_advice) (maxL := 2) (ret := (some .int)) (by decide) rfl ?_
  intro p e s m args below meth c s₁ B hml hv
  obtain ⟨rfl, hP, hK, hNw⟩ := hv
  have hx := B.exec
  have hb := B.bytes
  have hr := B.returns
  have hts := atoms_spec (ws := wm yX6_advice cX6_advice 2 (some .int)) B.pre
  have hown : s.vm.findClass RX6 = some m.cls := findClass_of_methodNamed B.named
  have hlocks := B.notSynchronized
  have hW : ∀ w ∈ WA, w.before _ s = true := fun w h => hts w (List.mem_cons_of_mem _ h)
  have hP : va_P D vwCl [((ax 0), .inr (6, [.ref (am 0), .ref (af 0), .ref (ap 0), .ref (ab 0), .ref (ar 0)])), ((ab 0), .inr (0, [.ref (ab 1), .ref (ab 2), .ref (ab 3), .ref (ab 4), .ref (ab 5), .int (Bk 8 0), .int (Bk 8 1)])), ((ab 1), eI C 60 (Bk 0)), ((ab 2), eI C 60 (Bk 1)), ((ab 3), eI C 60 (Bk 2)), ((ab 4), eZ C 60 (Bk 3)), ((ab 5), eII C 4 (rr ab 6 4)), ((ab 6), eI C 61 (Bk 4)), ((ab 7), eI C 61 (Bk 5)), ((ab 8), eI C 61 (Bk 6)), ((ab 9), eI C 61 (Bk 7))] s.heap := hP
  have hl := lv_entry ([.ref (ax 0), .int tool]) (n := 2) (Nat.le_of_ble_eq_true rfl)
  rw [lg_entry_eq]
  generalize (lg_sl ([.ref (ax 0), .int tool]) ++ List.replicate (2 - (lg_sl ([.ref (ax 0), .int tool])).length) Slot.unset).toArray = ls at hl ⊢
  have hl : lv_has ls 2 [(0, .ref (ax 0)), (1, .int tool)] := hl
  refine lv_iload_n hx hb dX6_advice_0 rfl (lv_at hl 1 rfl) ?_
  refine lv_iconst (v := 0) hx hb dX6_advice_1 (by decide) ?_
  refine lv_iconst (v := 3) hx hb dX6_advice_2 (by decide) ?_
  refine xri (r := f6_outside tool 0 3) (rS (As := [.int tool, .int 0, .int 3]) (n := 3) (rest := []) ⟨hx, hb, hml, hown, hW⟩ (kX6_outside l tool 0 3) (wa tw259 rfl) (wa tw257 rfl) (wa tw258 rfl) (wa tw1 rfl) (by decide +kernel) ⟨Nat.le_of_ble_eq_true rfl, Nat.le_of_ble_eq_true rfl⟩ pS0 hl.1 rfl (Nat.le_of_ble_eq_true rfl) dX6_advice_3 ⟨Nat.le_of_ble_eq_true rfl, Nat.le_of_ble_eq_true rfl⟩ rfl rfl rfl) ?_
  refine lv_if_eq (tgt := 12) hx hb dX6_advice_6 (by decide) (fun c_1 => ?_) (fun c_1 => ?_)
  · rcases (q_tool c_1) with rfl | rfl | rfl | rfl
    · have hz_0_0 : (0 : Int32) = 0 := rfl
      refine lv_aload_n hx hb dX6_advice_12 rfl (lv_at hl 0 rfl) ?_
      refine va_get (D := D) (ci := 6) (C := RX6) (T := TX6) (N := 5) hx hb hW inX6 hown hK hP 0 rfl rfl 3 (by decide) (hW _ (wa tw240 rfl)) (fun _ h9 => h9) rfl dX6_advice_13 ?_
      refine lv_iload_n hx hb dX6_advice_16 rfl (lv_at hl 1 rfl) ?_
      refine lv_aload_n hx hb dX6_advice_17 rfl (lv_at hl 0 rfl) ?_
      refine va_get (D := D) (ci := 6) (C := RX6) (T := TX6) (N := 5) hx hb hW inX6 hown hK hP 0 rfl rfl 3 (by decide) (hW _ (wa tw240 rfl)) (fun _ h9 => h9) rfl dX6_advice_18 ?_
      refine va_getN (D := D) (host := "FieldAfterField") (ci := 0) (C := RX0) (T := TX0) (N := 7) hx hb hW inX0 hown hK hP 1 rfl rfl 5 (by decide) (va_Nw.use rfl (hNw _ tw184 rfl)) (fun _ h9 => h9) rfl dX6_advice_21 ?_
      refine xtopi (y := nI L) hL ?_
      refine xri (r := f0_state Bk (Bk 4) 0 L) (rVN (As := [.int 0, .int (nI L)]) (n := 2) (rest := []) ⟨hx, hb, hml, hown, hW⟩ (kX0_stateAhead_0 l D C ab Bk L (by omega)) (wa tw500 rfl) (hNw _ tw497 rfl) (wa tw499 rfl) (was ts32 rfl) (wa tw6 rfl) (by decide +kernel) ⟨Nat.le_of_ble_eq_true rfl, Nat.le_of_ble_eq_true rfl⟩ (pVr (hP.sub [1, 2, 3, 4, 5, 6, 7, 8, 9, 10] rfl) hK hNw 0 rfl rfl) hl.1 rfl (Nat.le_of_ble_eq_true rfl) dX6_advice_24 ⟨Nat.le_of_ble_eq_true rfl, Nat.le_of_ble_eq_true rfl⟩ rfl rfl rfl) ?_
      refine lv_sipush (v := 1000) hx hb dX6_advice_27 (by decide) ?_
      refine lv_idiv hx hb dX6_advice_30 (by decide) ?_
      refine lv_ineg hx hb dX6_advice_31 ?_
      exact W.iret (v := -((f0_state Bk (Bk 4) 0 L) / 1000)) hx hb hr (fun t ht _ => ⟨_, rfl, (by simp only [f6_advice, if_pos c_1, if_pos hz_0_0, if_true, if_false, ↓reduceIte]), ht⟩) (fun q h => by cases h) dX6_advice_32
    · have hz_1_0 : ¬ (1 : Int32) = 0 := by decide
      have hz_1_1 : (1 : Int32) = 1 := rfl
      refine lv_aload_n hx hb dX6_advice_12 rfl (lv_at hl 0 rfl) ?_
      refine va_get (D := D) (ci := 6) (C := RX6) (T := TX6) (N := 5) hx hb hW inX6 hown hK hP 0 rfl rfl 3 (by decide) (hW _ (wa tw240 rfl)) (fun _ h9 => h9) rfl dX6_advice_13 ?_
      refine lv_iload_n hx hb dX6_advice_16 rfl (lv_at hl 1 rfl) ?_
      refine lv_aload_n hx hb dX6_advice_17 rfl (lv_at hl 0 rfl) ?_
      refine va_get (D := D) (ci := 6) (C := RX6) (T := TX6) (N := 5) hx hb hW inX6 hown hK hP 0 rfl rfl 3 (by decide) (hW _ (wa tw240 rfl)) (fun _ h9 => h9) rfl dX6_advice_18 ?_
      refine va_getN (D := D) (host := "FieldAfterField") (ci := 0) (C := RX0) (T := TX0) (N := 7) hx hb hW inX0 hown hK hP 1 rfl rfl 5 (by decide) (va_Nw.use rfl (hNw _ tw184 rfl)) (fun _ h9 => h9) rfl dX6_advice_21 ?_
      refine xtopi (y := nI L) hL ?_
      refine xri (r := f0_state Bk (Bk 5) 1 L) (rVN (As := [.int 1, .int (nI L)]) (n := 2) (rest := []) ⟨hx, hb, hml, hown, hW⟩ (kX0_stateAhead_1 l D C ab Bk L (by omega)) (wa tw500 rfl) (hNw _ tw497 rfl) (wa tw499 rfl) (was ts32 rfl) (wa tw6 rfl) (by decide +kernel) ⟨Nat.le_of_ble_eq_true rfl, Nat.le_of_ble_eq_true rfl⟩ (pVr (hP.sub [1, 2, 3, 4, 5, 6, 7, 8, 9, 10] rfl) hK hNw 0 rfl rfl) hl.1 rfl (Nat.le_of_ble_eq_true rfl) dX6_advice_24 ⟨Nat.le_of_ble_eq_true rfl, Nat.le_of_ble_eq_true rfl⟩ rfl rfl rfl) ?_
      refine lv_sipush (v := 1000) hx hb dX6_advice_27 (by decide) ?_
      refine lv_idiv hx hb dX6_advice_30 (by decide) ?_
      refine lv_ineg hx hb dX6_advice_31 ?_
      exact W.iret (v := -((f0_state Bk (Bk 5) 1 L) / 1000)) hx hb hr (fun t ht _ => ⟨_, rfl, (by simp only [f6_advice, if_pos c_1, if_neg hz_1_0, if_pos hz_1_1, if_true, if_false, ↓reduceIte]), ht⟩) (fun q h => by cases h) dX6_advice_32
    · have hz_2_0 : ¬ (2 : Int32) = 0 := by decide
      have hz_2_1 : ¬ (2 : Int32) = 1 := by decide
      have hz_2_2 : (2 : Int32) = 2 := rfl
      refine lv_aload_n hx hb dX6_advice_12 rfl (lv_at hl 0 rfl) ?_
      refine va_get (D := D) (ci := 6) (C := RX6) (T := TX6) (N := 5) hx hb hW inX6 hown hK hP 0 rfl rfl 3 (by decide) (hW _ (wa tw240 rfl)) (fun _ h9 => h9) rfl dX6_advice_13 ?_
      refine lv_iload_n hx hb dX6_advice_16 rfl (lv_at hl 1 rfl) ?_
      refine lv_aload_n hx hb dX6_advice_17 rfl (lv_at hl 0 rfl) ?_
      refine va_get (D := D) (ci := 6) (C := RX6) (T := TX6) (N := 5) hx hb hW inX6 hown hK hP 0 rfl rfl 3 (by decide) (hW _ (wa tw240 rfl)) (fun _ h9 => h9) rfl dX6_advice_18 ?_
      refine va_getN (D := D) (host := "FieldAfterField") (ci := 0) (C := RX0) (T := TX0) (N := 7) hx hb hW inX0 hown hK hP 1 rfl rfl 5 (by decide) (va_Nw.use rfl (hNw _ tw184 rfl)) (fun _ h9 => h9) rfl dX6_advice_21 ?_
      refine xtopi (y := nI L) hL ?_
      refine xri (r := f0_state Bk (Bk 6) 2 L) (rVN (As := [.int 2, .int (nI L)]) (n := 2) (rest := []) ⟨hx, hb, hml, hown, hW⟩ (kX0_stateAhead_2 l D C ab Bk L (by omega)) (wa tw500 rfl) (hNw _ tw497 rfl) (wa tw499 rfl) (was ts32 rfl) (wa tw6 rfl) (by decide +kernel) ⟨Nat.le_of_ble_eq_true rfl, Nat.le_of_ble_eq_true rfl⟩ (pVr (hP.sub [1, 2, 3, 4, 5, 6, 7, 8, 9, 10] rfl) hK hNw 0 rfl rfl) hl.1 rfl (Nat.le_of_ble_eq_true rfl) dX6_advice_24 ⟨Nat.le_of_ble_eq_true rfl, Nat.le_of_ble_eq_true rfl⟩ rfl rfl rfl) ?_
      refine lv_sipush (v := 1000) hx hb dX6_advice_27 (by decide) ?_
      refine lv_idiv hx hb dX6_advice_30 (by decide) ?_
      refine lv_ineg hx hb dX6_advice_31 ?_
      exact W.iret (v := -((f0_state Bk (Bk 6) 2 L) / 1000)) hx hb hr (fun t ht _ => ⟨_, rfl, (by simp only [f6_advice, if_pos c_1, if_neg hz_2_0, if_neg hz_2_1, if_pos hz_2_2, if_true, if_false, ↓reduceIte]), ht⟩) (fun q h => by cases h) dX6_advice_32
    · have hz_3_0 : ¬ (3 : Int32) = 0 := by decide
      have hz_3_1 : ¬ (3 : Int32) = 1 := by decide
      have hz_3_2 : ¬ (3 : Int32) = 2 := by decide
      refine lv_aload_n hx hb dX6_advice_12 rfl (lv_at hl 0 rfl) ?_
      refine va_get (D := D) (ci := 6) (C := RX6) (T := TX6) (N := 5) hx hb hW inX6 hown hK hP 0 rfl rfl 3 (by decide) (hW _ (wa tw240 rfl)) (fun _ h9 => h9) rfl dX6_advice_13 ?_
      refine lv_iload_n hx hb dX6_advice_16 rfl (lv_at hl 1 rfl) ?_
      refine lv_aload_n hx hb dX6_advice_17 rfl (lv_at hl 0 rfl) ?_
      refine va_get (D := D) (ci := 6) (C := RX6) (T := TX6) (N := 5) hx hb hW inX6 hown hK hP 0 rfl rfl 3 (by decide) (hW _ (wa tw240 rfl)) (fun _ h9 => h9) rfl dX6_advice_18 ?_
      refine va_getN (D := D) (host := "FieldAfterField") (ci := 0) (C := RX0) (T := TX0) (N := 7) hx hb hW inX0 hown hK hP 1 rfl rfl 5 (by decide) (va_Nw.use rfl (hNw _ tw184 rfl)) (fun _ h9 => h9) rfl dX6_advice_21 ?_
      refine xtopi (y := nI L) hL ?_
      refine xri (r := f0_state Bk (Bk 7) 3 L) (rVN (As := [.int 3, .int (nI L)]) (n := 2) (rest := []) ⟨hx, hb, hml, hown, hW⟩ (kX0_stateAhead_3 l D C ab Bk L (by omega)) (wa tw500 rfl) (hNw _ tw497 rfl) (wa tw499 rfl) (was ts32 rfl) (wa tw6 rfl) (by decide +kernel) ⟨Nat.le_of_ble_eq_true rfl, Nat.le_of_ble_eq_true rfl⟩ (pVr (hP.sub [1, 2, 3, 4, 5, 6, 7, 8, 9, 10] rfl) hK hNw 0 rfl rfl) hl.1 rfl (Nat.le_of_ble_eq_true rfl) dX6_advice_24 ⟨Nat.le_of_ble_eq_true rfl, Nat.le_of_ble_eq_true rfl⟩ rfl rfl rfl) ?_
      refine lv_sipush (v := 1000) hx hb dX6_advice_27 (by decide) ?_
      refine lv_idiv hx hb dX6_advice_30 (by decide) ?_
      refine lv_ineg hx hb dX6_advice_31 ?_
      exact W.iret (v := -((f0_state Bk (Bk 7) 3 L) / 1000)) hx hb hr (fun t ht _ => ⟨_, rfl, (by simp only [f6_advice, if_pos c_1, if_neg hz_3_0, if_neg hz_3_1, if_neg hz_3_2, if_true, if_false, ↓reduceIte]), ht⟩) (fun q h => by cases h) dX6_advice_32
  · refine lv_ldc hx hb hown (hW _ (wa tw274 rfl)) dX6_advice_9 ?_
    exact W.iret (v := (-100001)) hx hb hr (fun t ht _ => ⟨_, rfl, (by simp only [f6_advice, if_neg c_1]), ht⟩) (fun q h => by cases h) dX6_advice_11

def f6_offset (Rt : Nat → Nat → Int32) (tool layer v : Int32) : Int32 := (if (f6_outside tool 0 3) = 0 then (if (f6_outside layer 0 5) = 0 then (if (f6_outside v (-999) 999) = 0 then (if tool = 0 then ((Rt 0) (ix layer)) else (if tool = 1 then ((Rt 1) (ix layer)) else (if tool = 2 then ((Rt 2) (ix layer)) else ((Rt 3) (ix layer))))) else ((-100002))) else ((-100002))) else ((-100001)))
def f6_offset_Rt (Rt : Nat → Nat → Int32) (tool layer v : Int32) : Nat → Nat → Int32 := (if (f6_outside tool 0 3) = 0 then (if (f6_outside layer 0 5) = 0 then (if (f6_outside v (-999) 999) = 0 then (if tool = 0 then (uM Rt 0 (upd (Rt 0) (ix layer) v)) else (if tool = 1 then (uM Rt 1 (upd (Rt 1) (ix layer) v)) else (if tool = 2 then (uM Rt 2 (upd (Rt 2) (ix layer) v)) else (uM Rt 3 (upd (Rt 3) (ix layer) v))))) else (Rt)) else (Rt)) else (Rt))
set_option maxHeartbeats 4000000 in
set_option maxRecDepth 100000 in
theorem kX6_offset (l : Launch) (D : va_G) (C : Nat → ClassId) (ax am af ap ab ar : Nat → Nat) (Rt : Nat → Nat → Int32) (tool layer v : Int32) (sz : Nat)  : Wi l D C yX6_offset cX6_offset 5 .int 1 [.ref (ax 0), .int tool, .int layer, .int v] ((wX ax am af ap ab ar) ++ (wR ar C Rt)) (((wX ax am af ap ab ar) ++ (wR ar C (f6_offset_Rt Rt tool layer v)))) (f6_offset Rt tool layer v) sz := by
  refine Met.ofW (cc := cX6_offset) (maxL := 5) (ret := (some .int)) (by decide) rfl ?_
  intro p e s m args below meth c s₁ B hml hv
  obtain ⟨rfl, hsz, hP, hK, hNw, hD0⟩ := hv
  have hx := B.exec
  have hb := B.bytes
  have hr := B.returns
  have hts := atoms_spec (ws := wm yX6_offset cX6_offset 5 (some .int)) B.pre
  have hown : s.vm.findClass RX6 = some m.cls := findClass_of_methodNamed B.named
  have hlocks := B.notSynchronized
  have hW : ∀ w ∈ WA, w.before _ s = true := fun w h => hts w (List.mem_cons_of_mem _ h)
  subst hsz
  have hD := hD0.self (sz := s.heap.size)
  generalize hAe : va_A ((wX ax am af ap ab ar) ++ (wR ar C Rt)) s.heap.size = A at hD ⊢
  have hA : ∀ q : Nat, s.heap.size ≤ q → A q := fun q h => by rw [← hAe]; exact Or.inr h
  have hS : va_S A s.heap s.heap [] := va_S.rf
  have hP : va_P D vwCl [((ax 0), .inr (6, [.ref (am 0), .ref (af 0), .ref (ap 0), .ref (ab 0), .ref (ar 0)])), ((ar 0), .inr (4, [.ref (ar 1), .ref (ar 6), .ref (ar 7), .ref (ar 8), .int (Rt 7 0), .int (Rt 7 1), .int (Rt 7 2)])), ((ar 1), eII C 4 (rr ar 2 4)), ((ar 2), eI C 6 (Rt 0)), ((ar 3), eI C 6 (Rt 1)), ((ar 4), eI C 6 (Rt 2)), ((ar 5), eI C 6 (Rt 3)), ((ar 6), eI C 6 (Rt 4)), ((ar 7), eI C 6 (Rt 5)), ((ar 8), eI C 4 (Rt 6))] s.heap := hP
  have hD : va_D A [((ax 0), .inr (6, [.ref (am 0), .ref (af 0), .ref (ap 0), .ref (ab 0), .ref (ar 0)])), ((ar 0), .inr (4, [.ref (ar 1), .ref (ar 6), .ref (ar 7), .ref (ar 8), .int (Rt 7 0), .int (Rt 7 1), .int (Rt 7 2)])), ((ar 1), eII C 4 (rr ar 2 4)), ((ar 2), eI C 6 (Rt 0)), ((ar 3), eI C 6 (Rt 1)), ((ar 4), eI C 6 (Rt 2)), ((ar 5), eI C 6 (Rt 3)), ((ar 6), eI C 6 (Rt 4)), ((ar 7), eI C 6 (Rt 5)), ((ar 8), eI C 4 (Rt 6))] := hD
  have hl := lv_entry ([.ref (ax 0), .int tool, .int layer, .int v]) (n := 5) (Nat.le_of_ble_eq_true rfl)
  rw [lg_entry_eq]
  generalize (lg_sl ([.ref (ax 0), .int tool, .int layer, .int v]) ++ List.replicate (5 - (lg_sl ([.ref (ax 0), .int tool, .int layer, .int v])).length) Slot.unset).toArray = ls at hl ⊢
  have hl : lv_has ls 5 [(0, .ref (ax 0)), (1, .int tool), (2, .int layer), (3, .int v)] := hl
  refine lv_iload_n hx hb dX6_offset_0 rfl (lv_at hl 1 rfl) ?_
  refine lv_iconst (v := 0) hx hb dX6_offset_1 (by decide) ?_
  refine lv_iconst (v := 3) hx hb dX6_offset_2 (by decide) ?_
  refine xri (r := f6_outside tool 0 3) (rS (As := [.int tool, .int 0, .int 3]) (n := 3) (rest := []) ⟨hx, hb, hml, hown, hW⟩ (kX6_outside l tool 0 3) (wa tw259 rfl) (wa tw257 rfl) (wa tw258 rfl) (wa tw1 rfl) (by decide +kernel) ⟨Nat.le_of_ble_eq_true rfl, Nat.le_of_ble_eq_true rfl⟩ pS0 hl.1 rfl (Nat.le_of_ble_eq_true rfl) dX6_offset_3 ⟨Nat.le_of_ble_eq_true rfl, Nat.le_of_ble_eq_true rfl⟩ rfl rfl rfl) ?_
  refine lv_if_eq (tgt := 12) hx hb dX6_offset_6 (by decide) (fun c_1 => ?_) (fun c_1 => ?_)
  · refine lv_iload_n hx hb dX6_offset_12 rfl (lv_at hl 2 rfl) ?_
    refine lv_iconst (v := 0) hx hb dX6_offset_13 (by decide) ?_
    refine lv_iconst (v := 5) hx hb dX6_offset_14 (by decide) ?_
    refine xri (r := f6_outside layer 0 5) (rS (As := [.int layer, .int 0, .int 5]) (n := 3) (rest := []) ⟨hx, hb, hml, hown, hW⟩ (kX6_outside l layer 0 5) (wa tw259 rfl) (wa tw257 rfl) (wa tw258 rfl) (wa tw1 rfl) (by decide +kernel) ⟨Nat.le_of_ble_eq_true rfl, Nat.le_of_ble_eq_true rfl⟩ pS0 hl.1 rfl (Nat.le_of_ble_eq_true rfl) dX6_offset_15 ⟨Nat.le_of_ble_eq_true rfl, Nat.le_of_ble_eq_true rfl⟩ rfl rfl rfl) ?_
    refine lv_if_ne (tgt := 34) hx hb dX6_offset_18 (by decide) (fun c_2 => ?_) (fun c_2 => ?_)
    · refine lv_ldc hx hb hown (hW _ (wa tw260 rfl)) dX6_offset_34 ?_
      have hb_0 : (f6_offset_Rt Rt tool layer v) = Rt := (by simp only [f6_offset, f6_offset_Rt, if_pos c_1, if_neg c_2])
      have hP9 : va_P D vwCl (((wX ax am af ap ab ar) ++ (wR ar C (f6_offset_Rt Rt tool layer v)))) s.heap := by rw [hb_0]; exact hP
      have hD9 : va_D A (((wX ax am af ap ab ar) ++ (wR ar C (f6_offset_Rt Rt tool layer v)))) := by rw [hb_0]; exact hD
      exact W.iret (v := (-100002)) hx hb hr (fun t ht _ => ⟨⟨_, (), rfl, (by simp only [f6_offset, f6_offset_Rt, if_pos c_1, if_neg c_2]), ⟨by rw [ht]; exact hP9, by rw [hAe]; exact hD9⟩⟩, hS.F ht⟩) hS.2.2 dX6_offset_36
    · obtain ⟨w, hw, rfl⟩ := q_outN (n := 6) rfl (by decide) c_2
      have hix_w : ix (nI w) = w := ix_nI (by omega)
      refine lv_iload_n hx hb dX6_offset_21 rfl (lv_at hl 3 rfl) ?_
      refine lv_sipush (v := (-999)) hx hb dX6_offset_22 (by decide) ?_
      refine lv_sipush (v := 999) hx hb dX6_offset_25 (by decide) ?_
      refine xri (r := f6_outside v (-999) 999) (rS (As := [.int v, .int (-999), .int 999]) (n := 3) (rest := []) ⟨hx, hb, hml, hown, hW⟩ (kX6_outside l v (-999) 999) (wa tw259 rfl) (wa tw257 rfl) (wa tw258 rfl) (wa tw1 rfl) (by decide +kernel) ⟨Nat.le_of_ble_eq_true rfl, Nat.le_of_ble_eq_true rfl⟩ pS0 hl.1 rfl (Nat.le_of_ble_eq_true rfl) dX6_offset_28 ⟨Nat.le_of_ble_eq_true rfl, Nat.le_of_ble_eq_true rfl⟩ rfl rfl rfl) ?_
      refine lv_if_eq (tgt := 37) hx hb dX6_offset_31 (by decide) (fun c_3 => ?_) (fun c_3 => ?_)
      · rcases (q_tool c_1) with rfl | rfl | rfl | rfl
        · have hz_0_0 : (0 : Int32) = 0 := rfl
          refine lv_aload_n hx hb dX6_offset_37 rfl (lv_at hl 0 rfl) ?_
          refine va_get (D := D) (ci := 6) (C := RX6) (T := TX6) (N := 5) hx hb hW inX6 hown hK hP 0 rfl rfl 4 (by decide) (hW _ (wa tw241 rfl)) (fun _ h9 => h9) rfl dX6_offset_38 ?_
          refine va_getN (D := D) (host := "FieldAfterField") (ci := 4) (C := RX4) (T := TX4) (N := 7) hx hb hW inX4 hown hK hP 1 rfl rfl 0 (by decide) (va_Nw.use rfl (hNw _ tw211 rfl)) (fun _ h9 => h9) rfl dX6_offset_41 ?_
          refine lv_iload_n hx hb dX6_offset_44 rfl (lv_at hl 1 rfl) ?_
          refine xaaldI hx hb hK hP 2 rfl 0 (nI_lit 0) (by decide) (by decide) (b := (ar 2)) rfl dX6_offset_45 ?_
          refine lv_iload_n hx hb dX6_offset_46 rfl (lv_at hl 2 rfl) ?_
          refine xiald hx hb hK hP 3 rfl w rfl (by omega) (by decide) dX6_offset_47 ?_
          refine lv_istore (lv' := [(4, .int ((Rt 0) w)), (0, .ref (ax 0)), (1, .int 0), (2, .int (nI w)), (3, .int v)]) hx hb dX6_offset_48 hl (by decide) rfl (fun ls hl => ?_)
          refine lv_aload_n hx hb dX6_offset_50 rfl (lv_at hl 1 rfl) ?_
          refine va_get (D := D) (ci := 6) (C := RX6) (T := TX6) (N := 5) hx hb hW inX6 hown hK hP 0 rfl rfl 4 (by decide) (hW _ (wa tw241 rfl)) (fun _ h9 => h9) rfl dX6_offset_51 ?_
          refine va_getN (D := D) (host := "FieldAfterField") (ci := 4) (C := RX4) (T := TX4) (N := 7) hx hb hW inX4 hown hK hP 1 rfl rfl 0 (by decide) (va_Nw.use rfl (hNw _ tw211 rfl)) (fun _ h9 => h9) rfl dX6_offset_54 ?_
          refine lv_iload_n hx hb dX6_offset_57 rfl (lv_at hl 2 rfl) ?_
          refine xaaldI hx hb hK hP 2 rfl 0 (nI_lit 0) (by decide) (by decide) (b := (ar 2)) rfl dX6_offset_58 ?_
          refine lv_iload_n hx hb dX6_offset_59 rfl (lv_at hl 3 rfl) ?_
          refine lv_iload_n hx hb dX6_offset_60 rfl (lv_at hl 4 rfl) ?_
          refine xiast hx hb hK hP hD hS 3 rfl w rfl (by omega) (by decide) dX6_offset_61 (fun H locs hP hD hS => ?_)
          have hP : va_P D vwCl [((ax 0), .inr (6, [.ref (am 0), .ref (af 0), .ref (ap 0), .ref (ab 0), .ref (ar 0)])), ((ar 0), .inr (4, [.ref (ar 1), .ref (ar 6), .ref (ar 7), .ref (ar 8), .int (Rt 7 0), .int (Rt 7 1), .int (Rt 7 2)])), ((ar 1), eII C 4 (rr ar 2 4)), ((ar 2), eI C 6 (upd (Rt 0) w v)), ((ar 3), eI C 6 (Rt 1)), ((ar 4), eI C 6 (Rt 2)), ((ar 5), eI C 6 (Rt 3)), ((ar 6), eI C 6 (Rt 4)), ((ar 7), eI C 6 (Rt 5)), ((ar 8), eI C 4 (Rt 6))] H := hP
          have hD : va_D A [((ax 0), .inr (6, [.ref (am 0), .ref (af 0), .ref (ap 0), .ref (ab 0), .ref (ar 0)])), ((ar 0), .inr (4, [.ref (ar 1), .ref (ar 6), .ref (ar 7), .ref (ar 8), .int (Rt 7 0), .int (Rt 7 1), .int (Rt 7 2)])), ((ar 1), eII C 4 (rr ar 2 4)), ((ar 2), eI C 6 (upd (Rt 0) w v)), ((ar 3), eI C 6 (Rt 1)), ((ar 4), eI C 6 (Rt 2)), ((ar 5), eI C 6 (Rt 3)), ((ar 6), eI C 6 (Rt 4)), ((ar 7), eI C 6 (Rt 5)), ((ar 8), eI C 4 (Rt 6))] := hD
          refine lv_iload hx hb dX6_offset_62 (lv_at hl 0 rfl) ?_
          have hb_0 : (f6_offset_Rt Rt 0 (nI w) v) = uM Rt 0 (upd (Rt 0) w v) := (by simp only [f6_offset, f6_offset_Rt, if_pos c_1, if_pos c_2, if_pos c_3, if_pos hz_0_0, hix_w, if_true, if_false, ↓reduceIte])
          have hP9 : va_P D vwCl (((wX ax am af ap ab ar) ++ (wR ar C (f6_offset_Rt Rt 0 (nI w) v)))) H := by rw [hb_0]; exact hP
          have hD9 : va_D A (((wX ax am af ap ab ar) ++ (wR ar C (f6_offset_Rt Rt 0 (nI w) v)))) := by rw [hb_0]; exact hD
          exact W.iret (v := (Rt 0) w) hx hb hr (fun t ht _ => ⟨⟨_, (), rfl, (by simp only [f6_offset, f6_offset_Rt, if_pos c_1, if_pos c_2, if_pos c_3, if_pos hz_0_0, hix_w, if_true, if_false, ↓reduceIte]), ⟨by rw [ht]; exact hP9, by rw [hAe]; exact hD9⟩⟩, hS.F ht⟩) hS.2.2 dX6_offset_64
        · have hz_1_0 : ¬ (1 : Int32) = 0 := by decide
          have hz_1_1 : (1 : Int32) = 1 := rfl
          refine lv_aload_n hx hb dX6_offset_37 rfl (lv_at hl 0 rfl) ?_
          refine va_get (D := D) (ci := 6) (C := RX6) (T := TX6) (N := 5) hx hb hW inX6 hown hK hP 0 rfl rfl 4 (by decide) (hW _ (wa tw241 rfl)) (fun _ h9 => h9) rfl dX6_offset_38 ?_
          refine va_getN (D := D) (host := "FieldAfterField") (ci := 4) (C := RX4) (T := TX4) (N := 7) hx hb hW inX4 hown hK hP 1 rfl rfl 0 (by decide) (va_Nw.use rfl (hNw _ tw211 rfl)) (fun _ h9 => h9) rfl dX6_offset_41 ?_
          refine lv_iload_n hx hb dX6_offset_44 rfl (lv_at hl 1 rfl) ?_
          refine xaaldI hx hb hK hP 2 rfl 1 (nI_lit 1) (by decide) (by decide) (b := (ar 3)) rfl dX6_offset_45 ?_
          refine lv_iload_n hx hb dX6_offset_46 rfl (lv_at hl 2 rfl) ?_
          refine xiald hx hb hK hP 4 rfl w rfl (by omega) (by decide) dX6_offset_47 ?_
          refine lv_istore (lv' := [(4, .int ((Rt 1) w)), (0, .ref (ax 0)), (1, .int 1), (2, .int (nI w)), (3, .int v)]) hx hb dX6_offset_48 hl (by decide) rfl (fun ls hl => ?_)
          refine lv_aload_n hx hb dX6_offset_50 rfl (lv_at hl 1 rfl) ?_
          refine va_get (D := D) (ci := 6) (C := RX6) (T := TX6) (N := 5) hx hb hW inX6 hown hK hP 0 rfl rfl 4 (by decide) (hW _ (wa tw241 rfl)) (fun _ h9 => h9) rfl dX6_offset_51 ?_
          refine va_getN (D := D) (host := "FieldAfterField") (ci := 4) (C := RX4) (T := TX4) (N := 7) hx hb hW inX4 hown hK hP 1 rfl rfl 0 (by decide) (va_Nw.use rfl (hNw _ tw211 rfl)) (fun _ h9 => h9) rfl dX6_offset_54 ?_
          refine lv_iload_n hx hb dX6_offset_57 rfl (lv_at hl 2 rfl) ?_
          refine xaaldI hx hb hK hP 2 rfl 1 (nI_lit 1) (by decide) (by decide) (b := (ar 3)) rfl dX6_offset_58 ?_
          refine lv_iload_n hx hb dX6_offset_59 rfl (lv_at hl 3 rfl) ?_
          refine lv_iload_n hx hb dX6_offset_60 rfl (lv_at hl 4 rfl) ?_
          refine xiast hx hb hK hP hD hS 4 rfl w rfl (by omega) (by decide) dX6_offset_61 (fun H locs hP hD hS => ?_)
          have hP : va_P D vwCl [((ax 0), .inr (6, [.ref (am 0), .ref (af 0), .ref (ap 0), .ref (ab 0), .ref (ar 0)])), ((ar 0), .inr (4, [.ref (ar 1), .ref (ar 6), .ref (ar 7), .ref (ar 8), .int (Rt 7 0), .int (Rt 7 1), .int (Rt 7 2)])), ((ar 1), eII C 4 (rr ar 2 4)), ((ar 2), eI C 6 (Rt 0)), ((ar 3), eI C 6 (upd (Rt 1) w v)), ((ar 4), eI C 6 (Rt 2)), ((ar 5), eI C 6 (Rt 3)), ((ar 6), eI C 6 (Rt 4)), ((ar 7), eI C 6 (Rt 5)), ((ar 8), eI C 4 (Rt 6))] H := hP
          have hD : va_D A [((ax 0), .inr (6, [.ref (am 0), .ref (af 0), .ref (ap 0), .ref (ab 0), .ref (ar 0)])), ((ar 0), .inr (4, [.ref (ar 1), .ref (ar 6), .ref (ar 7), .ref (ar 8), .int (Rt 7 0), .int (Rt 7 1), .int (Rt 7 2)])), ((ar 1), eII C 4 (rr ar 2 4)), ((ar 2), eI C 6 (Rt 0)), ((ar 3), eI C 6 (upd (Rt 1) w v)), ((ar 4), eI C 6 (Rt 2)), ((ar 5), eI C 6 (Rt 3)), ((ar 6), eI C 6 (Rt 4)), ((ar 7), eI C 6 (Rt 5)), ((ar 8), eI C 4 (Rt 6))] := hD
          refine lv_iload hx hb dX6_offset_62 (lv_at hl 0 rfl) ?_
          have hb_0 : (f6_offset_Rt Rt 1 (nI w) v) = uM Rt 1 (upd (Rt 1) w v) := (by simp only [f6_offset, f6_offset_Rt, if_pos c_1, if_pos c_2, if_pos c_3, if_neg hz_1_0, if_pos hz_1_1, hix_w, if_true, if_false, ↓reduceIte])
          have hP9 : va_P D vwCl (((wX ax am af ap ab ar) ++ (wR ar C (f6_offset_Rt Rt 1 (nI w) v)))) H := by rw [hb_0]; exact hP
          have hD9 : va_D A (((wX ax am af ap ab ar) ++ (wR ar C (f6_offset_Rt Rt 1 (nI w) v)))) := by rw [hb_0]; exact hD
          exact W.iret (v := (Rt 1) w) hx hb hr (fun t ht _ => ⟨⟨_, (), rfl, (by simp only [f6_offset, f6_offset_Rt, if_pos c_1, if_pos c_2, if_pos c_3, if_neg hz_1_0, if_pos hz_1_1, hix_w, if_true, if_false, ↓reduceIte]), ⟨by rw [ht]; exact hP9, by rw [hAe]; exact hD9⟩⟩, hS.F ht⟩) hS.2.2 dX6_offset_64
        · have hz_2_0 : ¬ (2 : Int32) = 0 := by decide
          have hz_2_1 : ¬ (2 : Int32) = 1 := by decide
          have hz_2_2 : (2 : Int32) = 2 := rfl
          refine lv_aload_n hx hb dX6_offset_37 rfl (lv_at hl 0 rfl) ?_
          refine va_get (D := D) (ci := 6) (C := RX6) (T := TX6) (N := 5) hx hb hW inX6 hown hK hP 0 rfl rfl 4 (by decide) (hW _ (wa tw241 rfl)) (fun _ h9 => h9) rfl dX6_offset_38 ?_
          refine va_getN (D := D) (host := "FieldAfterField") (ci := 4) (C := RX4) (T := TX4) (N := 7) hx hb hW inX4 hown hK hP 1 rfl rfl 0 (by decide) (va_Nw.use rfl (hNw _ tw211 rfl)) (fun _ h9 => h9) rfl dX6_offset_41 ?_
          refine lv_iload_n hx hb dX6_offset_44 rfl (lv_at hl 1 rfl) ?_
          refine xaaldI hx hb hK hP 2 rfl 2 (nI_lit 2) (by decide) (by decide) (b := (ar 4)) rfl dX6_offset_45 ?_
          refine lv_iload_n hx hb dX6_offset_46 rfl (lv_at hl 2 rfl) ?_
          refine xiald hx hb hK hP 5 rfl w rfl (by omega) (by decide) dX6_offset_47 ?_
          refine lv_istore (lv' := [(4, .int ((Rt 2) w)), (0, .ref (ax 0)), (1, .int 2), (2, .int (nI w)), (3, .int v)]) hx hb dX6_offset_48 hl (by decide) rfl (fun ls hl => ?_)
          refine lv_aload_n hx hb dX6_offset_50 rfl (lv_at hl 1 rfl) ?_
          refine va_get (D := D) (ci := 6) (C := RX6) (T := TX6) (N := 5) hx hb hW inX6 hown hK hP 0 rfl rfl 4 (by decide) (hW _ (wa tw241 rfl)) (fun _ h9 => h9) rfl dX6_offset_51 ?_
          refine va_getN (D := D) (host := "FieldAfterField") (ci := 4) (C := RX4) (T := TX4) (N := 7) hx hb hW inX4 hown hK hP 1 rfl rfl 0 (by decide) (va_Nw.use rfl (hNw _ tw211 rfl)) (fun _ h9 => h9) rfl dX6_offset_54 ?_
          refine lv_iload_n hx hb dX6_offset_57 rfl (lv_at hl 2 rfl) ?_
          refine xaaldI hx hb hK hP 2 rfl 2 (nI_lit 2) (by decide) (by decide) (b := (ar 4)) rfl dX6_offset_58 ?_
          refine lv_iload_n hx hb dX6_offset_59 rfl (lv_at hl 3 rfl) ?_
          refine lv_iload_n hx hb dX6_offset_60 rfl (lv_at hl 4 rfl) ?_
          refine xiast hx hb hK hP hD hS 5 rfl w rfl (by omega) (by decide) dX6_offset_61 (fun H locs hP hD hS => ?_)
          have hP : va_P D vwCl [((ax 0), .inr (6, [.ref (am 0), .ref (af 0), .ref (ap 0), .ref (ab 0), .ref (ar 0)])), ((ar 0), .inr (4, [.ref (ar 1), .ref (ar 6), .ref (ar 7), .ref (ar 8), .int (Rt 7 0), .int (Rt 7 1), .int (Rt 7 2)])), ((ar 1), eII C 4 (rr ar 2 4)), ((ar 2), eI C 6 (Rt 0)), ((ar 3), eI C 6 (Rt 1)), ((ar 4), eI C 6 (upd (Rt 2) w v)), ((ar 5), eI C 6 (Rt 3)), ((ar 6), eI C 6 (Rt 4)), ((ar 7), eI C 6 (Rt 5)), ((ar 8), eI C 4 (Rt 6))] H := hP
          have hD : va_D A [((ax 0), .inr (6, [.ref (am 0), .ref (af 0), .ref (ap 0), .ref (ab 0), .ref (ar 0)])), ((ar 0), .inr (4, [.ref (ar 1), .ref (ar 6), .ref (ar 7), .ref (ar 8), .int (Rt 7 0), .int (Rt 7 1), .int (Rt 7 2)])), ((ar 1), eII C 4 (rr ar 2 4)), ((ar 2), eI C 6 (Rt 0)), ((ar 3), eI C 6 (Rt 1)), ((ar 4), eI C 6 (upd (Rt 2) w v)), ((ar 5), eI C 6 (Rt 3)), ((ar 6), eI C 6 (Rt 4)), ((ar 7), eI C 6 (Rt 5)), ((ar 8), eI C 4 (Rt 6))] := hD
          refine lv_iload hx hb dX6_offset_62 (lv_at hl 0 rfl) ?_
          have hb_0 : (f6_offset_Rt Rt 2 (nI w) v) = uM Rt 2 (upd (Rt 2) w v) := (by simp only [f6_offset, f6_offset_Rt, if_pos c_1, if_pos c_2, if_pos c_3, if_neg hz_2_0, if_neg hz_2_1, if_pos hz_2_2, hix_w, if_true, if_false, ↓reduceIte])
          have hP9 : va_P D vwCl (((wX ax am af ap ab ar) ++ (wR ar C (f6_offset_Rt Rt 2 (nI w) v)))) H := by rw [hb_0]; exact hP
          have hD9 : va_D A (((wX ax am af ap ab ar) ++ (wR ar C (f6_offset_Rt Rt 2 (nI w) v)))) := by rw [hb_0]; exact hD
          exact W.iret (v := (Rt 2) w) hx hb hr (fun t ht _ => ⟨⟨_, (), rfl, (by simp only [f6_offset, f6_offset_Rt, if_pos c_1, if_pos c_2, if_pos c_3, if_neg hz_2_0, if_neg hz_2_1, if_pos hz_2_2, hix_w, if_true, if_false, ↓reduceIte]), ⟨by rw [ht]; exact hP9, by rw [hAe]; exact hD9⟩⟩, hS.F ht⟩) hS.2.2 dX6_offset_64
        · have hz_3_0 : ¬ (3 : Int32) = 0 := by decide
          have hz_3_1 : ¬ (3 : Int32) = 1 := by decide
          have hz_3_2 : ¬ (3 : Int32) = 2 := by decide
          refine lv_aload_n hx hb dX6_offset_37 rfl (lv_at hl 0 rfl) ?_
          refine va_get (D := D) (ci := 6) (C := RX6) (T := TX6) (N := 5) hx hb hW inX6 hown hK hP 0 rfl rfl 4 (by decide) (hW _ (wa tw241 rfl)) (fun _ h9 => h9) rfl dX6_offset_38 ?_
          refine va_getN (D := D) (host := "FieldAfterField") (ci := 4) (C := RX4) (T := TX4) (N := 7) hx hb hW inX4 hown hK hP 1 rfl rfl 0 (by decide) (va_Nw.use rfl (hNw _ tw211 rfl)) (fun _ h9 => h9) rfl dX6_offset_41 ?_
          refine lv_iload_n hx hb dX6_offset_44 rfl (lv_at hl 1 rfl) ?_
          refine xaaldI hx hb hK hP 2 rfl 3 (nI_lit 3) (by decide) (by decide) (b := (ar 5)) rfl dX6_offset_45 ?_
          refine lv_iload_n hx hb dX6_offset_46 rfl (lv_at hl 2 rfl) ?_
          refine xiald hx hb hK hP 6 rfl w rfl (by omega) (by decide) dX6_offset_47 ?_
          refine lv_istore (lv' := [(4, .int ((Rt 3) w)), (0, .ref (ax 0)), (1, .int 3), (2, .int (nI w)), (3, .int v)]) hx hb dX6_offset_48 hl (by decide) rfl (fun ls hl => ?_)
          refine lv_aload_n hx hb dX6_offset_50 rfl (lv_at hl 1 rfl) ?_
          refine va_get (D := D) (ci := 6) (C := RX6) (T := TX6) (N := 5) hx hb hW inX6 hown hK hP 0 rfl rfl 4 (by decide) (hW _ (wa tw241 rfl)) (fun _ h9 => h9) rfl dX6_offset_51 ?_
          refine va_getN (D := D) (host := "FieldAfterField") (ci := 4) (C := RX4) (T := TX4) (N := 7) hx hb hW inX4 hown hK hP 1 rfl rfl 0 (by decide) (va_Nw.use rfl (hNw _ tw211 rfl)) (fun _ h9 => h9) rfl dX6_offset_54 ?_
          refine lv_iload_n hx hb dX6_offset_57 rfl (lv_at hl 2 rfl) ?_
          refine xaaldI hx hb hK hP 2 rfl 3 (nI_lit 3) (by decide) (by decide) (b := (ar 5)) rfl dX6_offset_58 ?_
          refine lv_iload_n hx hb dX6_offset_59 rfl (lv_at hl 3 rfl) ?_
          refine lv_iload_n hx hb dX6_offset_60 rfl (lv_at hl 4 rfl) ?_
          refine xiast hx hb hK hP hD hS 6 rfl w rfl (by omega) (by decide) dX6_offset_61 (fun H locs hP hD hS => ?_)
          have hP : va_P D vwCl [((ax 0), .inr (6, [.ref (am 0), .ref (af 0), .ref (ap 0), .ref (ab 0), .ref (ar 0)])), ((ar 0), .inr (4, [.ref (ar 1), .ref (ar 6), .ref (ar 7), .ref (ar 8), .int (Rt 7 0), .int (Rt 7 1), .int (Rt 7 2)])), ((ar 1), eII C 4 (rr ar 2 4)), ((ar 2), eI C 6 (Rt 0)), ((ar 3), eI C 6 (Rt 1)), ((ar 4), eI C 6 (Rt 2)), ((ar 5), eI C 6 (upd (Rt 3) w v)), ((ar 6), eI C 6 (Rt 4)), ((ar 7), eI C 6 (Rt 5)), ((ar 8), eI C 4 (Rt 6))] H := hP
          have hD : va_D A [((ax 0), .inr (6, [.ref (am 0), .ref (af 0), .ref (ap 0), .ref (ab 0), .ref (ar 0)])), ((ar 0), .inr (4, [.ref (ar 1), .ref (ar 6), .ref (ar 7), .ref (ar 8), .int (Rt 7 0), .int (Rt 7 1), .int (Rt 7 2)])), ((ar 1), eII C 4 (rr ar 2 4)), ((ar 2), eI C 6 (Rt 0)), ((ar 3), eI C 6 (Rt 1)), ((ar 4), eI C 6 (Rt 2)), ((ar 5), eI C 6 (upd (Rt 3) w v)), ((ar 6), eI C 6 (Rt 4)), ((ar 7), eI C 6 (Rt 5)), ((ar 8), eI C 4 (Rt 6))] := hD
          refine lv_iload hx hb dX6_offset_62 (lv_at hl 0 rfl) ?_
          have hb_0 : (f6_offset_Rt Rt 3 (nI w) v) = uM Rt 3 (upd (Rt 3) w v) := (by simp only [f6_offset, f6_offset_Rt, if_pos c_1, if_pos c_2, if_pos c_3, if_neg hz_3_0, if_neg hz_3_1, if_neg hz_3_2, hix_w, if_true, if_false, ↓reduceIte])
          have hP9 : va_P D vwCl (((wX ax am af ap ab ar) ++ (wR ar C (f6_offset_Rt Rt 3 (nI w) v)))) H := by rw [hb_0]; exact hP
          have hD9 : va_D A (((wX ax am af ap ab ar) ++ (wR ar C (f6_offset_Rt Rt 3 (nI w) v)))) := by rw [hb_0]; exact hD
          exact W.iret (v := (Rt 3) w) hx hb hr (fun t ht _ => ⟨⟨_, (), rfl, (by simp only [f6_offset, f6_offset_Rt, if_pos c_1, if_pos c_2, if_pos c_3, if_neg hz_3_0, if_neg hz_3_1, if_neg hz_3_2, hix_w, if_true, if_false, ↓reduceIte]), ⟨by rw [ht]; exact hP9, by rw [hAe]; exact hD9⟩⟩, hS.F ht⟩) hS.2.2 dX6_offset_64
      · refine lv_ldc hx hb hown (hW _ (wa tw260 rfl)) dX6_offset_34 ?_
        have hb_0 : (f6_offset_Rt Rt tool (nI w) v) = Rt := (by simp only [f6_offset, f6_offset_Rt, if_pos c_1, if_pos c_2, if_neg c_3, hix_w])
        have hP9 : va_P D vwCl (((wX ax am af ap ab ar) ++ (wR ar C (f6_offset_Rt Rt tool (nI w) v)))) s.heap := by rw [hb_0]; exact hP
        have hD9 : va_D A (((wX ax am af ap ab ar) ++ (wR ar C (f6_offset_Rt Rt tool (nI w) v)))) := by rw [hb_0]; exact hD
        exact W.iret (v := (-100002)) hx hb hr (fun t ht _ => ⟨⟨_, (), rfl, (by simp only [f6_offset, f6_offset_Rt, if_pos c_1, if_pos c_2, if_neg c_3, hix_w]), ⟨by rw [ht]; exact hP9, by rw [hAe]; exact hD9⟩⟩, hS.F ht⟩) hS.2.2 dX6_offset_36
  · refine lv_ldc hx hb hown (hW _ (wa tw274 rfl)) dX6_offset_9 ?_
    have hb_0 : (f6_offset_Rt Rt tool layer v) = Rt := (by simp only [f6_offset, f6_offset_Rt, if_neg c_1])
    have hP9 : va_P D vwCl (((wX ax am af ap ab ar) ++ (wR ar C (f6_offset_Rt Rt tool layer v)))) s.heap := by rw [hb_0]; exact hP
    have hD9 : va_D A (((wX ax am af ap ab ar) ++ (wR ar C (f6_offset_Rt Rt tool layer v)))) := by rw [hb_0]; exact hD
    exact W.iret (v := (-100001)) hx hb hr (fun t ht _ => ⟨⟨_, (), rfl, (by simp only [f6_offset, f6_offset_Rt, if_neg c_1]), ⟨by rw [ht]; exact hP9, by rw [hAe]; exact hD9⟩⟩, hS.F ht⟩) hS.2.2 dX6_offset_11

def f6_rule (Rt : Nat → Nat → Int32) (what v : Int32) : Int32 := (if what = 0 then (if (f6_outside v 0 1998) = 0 then (Rt 7 0) else ((-100002))) else (if what = 1 then (if (f6_outside v 1 6) = 0 then (Rt 7 1) else ((-100002))) else ((-100002))))
def f6_rule_Rt (Rt : Nat → Nat → Int32) (what v : Int32) : Nat → Nat → Int32 := (if what = 0 then (if (f6_outside v 0 1998) = 0 then (uM Rt 7 (upd (Rt 7) 0 v)) else (Rt)) else (if what = 1 then (if (f6_outside v 1 6) = 0 then (uM Rt 7 (upd (Rt 7) 1 v)) else (Rt)) else (Rt)))
set_option maxHeartbeats 4000000 in
set_option maxRecDepth 100000 in
theorem kX6_rule (l : Launch) (D : va_G) (C : Nat → ClassId) (ax am af ap ab ar : Nat → Nat) (Rt : Nat → Nat → Int32) (what v : Int32) (sz : Nat)  : Wi l D C yX6_rule cX6_rule 4 .int 1 [.ref (ax 0), .int what, .int v] ((wX ax am af ap ab ar) ++ (wR ar C Rt)) (((wX ax am af ap ab ar) ++ (wR ar C (f6_rule_Rt Rt what v)))) (f6_rule Rt what v) sz := by
  refine Met.ofW (cc := cX6_rule) (maxL := 4) (ret := (some .int)) (by decide) rfl ?_
  intro p e s m args below meth c s₁ B hml hv
  obtain ⟨rfl, hsz, hP, hK, hNw, hD0⟩ := hv
  have hx := B.exec
  have hb := B.bytes
  have hr := B.returns
  have hts := atoms_spec (ws := wm yX6_rule cX6_rule 4 (some .int)) B.pre
  have hown : s.vm.findClass RX6 = some m.cls := findClass_of_methodNamed B.named
  have hlocks := B.notSynchronized
  have hW : ∀ w ∈ WA, w.before _ s = true := fun w h => hts w (List.mem_cons_of_mem _ h)
  subst hsz
  have hD := hD0.self (sz := s.heap.size)
  generalize hAe : va_A ((wX ax am af ap ab ar) ++ (wR ar C Rt)) s.heap.size = A at hD ⊢
  have hA : ∀ q : Nat, s.heap.size ≤ q → A q := fun q h => by rw [← hAe]; exact Or.inr h
  have hS : va_S A s.heap s.heap [] := va_S.rf
  have hP : va_P D vwCl [((ax 0), .inr (6, [.ref (am 0), .ref (af 0), .ref (ap 0), .ref (ab 0), .ref (ar 0)])), ((ar 0), .inr (4, [.ref (ar 1), .ref (ar 6), .ref (ar 7), .ref (ar 8), .int (Rt 7 0), .int (Rt 7 1), .int (Rt 7 2)])), ((ar 1), eII C 4 (rr ar 2 4)), ((ar 2), eI C 6 (Rt 0)), ((ar 3), eI C 6 (Rt 1)), ((ar 4), eI C 6 (Rt 2)), ((ar 5), eI C 6 (Rt 3)), ((ar 6), eI C 6 (Rt 4)), ((ar 7), eI C 6 (Rt 5)), ((ar 8), eI C 4 (Rt 6))] s.heap := hP
  have hD : va_D A [((ax 0), .inr (6, [.ref (am 0), .ref (af 0), .ref (ap 0), .ref (ab 0), .ref (ar 0)])), ((ar 0), .inr (4, [.ref (ar 1), .ref (ar 6), .ref (ar 7), .ref (ar 8), .int (Rt 7 0), .int (Rt 7 1), .int (Rt 7 2)])), ((ar 1), eII C 4 (rr ar 2 4)), ((ar 2), eI C 6 (Rt 0)), ((ar 3), eI C 6 (Rt 1)), ((ar 4), eI C 6 (Rt 2)), ((ar 5), eI C 6 (Rt 3)), ((ar 6), eI C 6 (Rt 4)), ((ar 7), eI C 6 (Rt 5)), ((ar 8), eI C 4 (Rt 6))] := hD
  have hl := lv_entry ([.ref (ax 0), .int what, .int v]) (n := 4) (Nat.le_of_ble_eq_true rfl)
  rw [lg_entry_eq]
  generalize (lg_sl ([.ref (ax 0), .int what, .int v]) ++ List.replicate (4 - (lg_sl ([.ref (ax 0), .int what, .int v])).length) Slot.unset).toArray = ls at hl ⊢
  have hl : lv_has ls 4 [(0, .ref (ax 0)), (1, .int what), (2, .int v)] := hl
  refine lv_iload_n hx hb dX6_rule_0 rfl (lv_at hl 1 rfl) ?_
  refine lv_if_ne (tgt := 33) hx hb dX6_rule_1 (by decide) (fun c_1 => ?_) (fun c_1 => ?_)
  · refine lv_iload_n hx hb dX6_rule_33 rfl (lv_at hl 1 rfl) ?_
    refine lv_iconst (v := 1) hx hb dX6_rule_34 (by decide) ?_
    refine lv_icmp_ne (tgt := 66) hx hb dX6_rule_35 (by decide) (fun c_2 => ?_) (fun c_2 => ?_)
    · refine lv_ldc hx hb hown (hW _ (wa tw260 rfl)) dX6_rule_66 ?_
      have hb_0 : (f6_rule_Rt Rt what v) = Rt := (by simp only [f6_rule, f6_rule_Rt, if_neg c_1, if_neg c_2])
      have hP9 : va_P D vwCl (((wX ax am af ap ab ar) ++ (wR ar C (f6_rule_Rt Rt what v)))) s.heap := by rw [hb_0]; exact hP
      have hD9 : va_D A (((wX ax am af ap ab ar) ++ (wR ar C (f6_rule_Rt Rt what v)))) := by rw [hb_0]; exact hD
      exact W.iret (v := (-100002)) hx hb hr (fun t ht _ => ⟨⟨_, (), rfl, (by simp only [f6_rule, f6_rule_Rt, if_neg c_1, if_neg c_2]), ⟨by rw [ht]; exact hP9, by rw [hAe]; exact hD9⟩⟩, hS.F ht⟩) hS.2.2 dX6_rule_68
    · refine lv_iload_n hx hb dX6_rule_38 rfl (lv_at hl 2 rfl) ?_
      refine lv_iconst (v := 1) hx hb dX6_rule_39 (by decide) ?_
      refine lv_bipush (v := 6) hx hb dX6_rule_40 (by decide) ?_
      refine xri (r := f6_outside v 1 6) (rS (As := [.int v, .int 1, .int 6]) (n := 3) (rest := []) ⟨hx, hb, hml, hown, hW⟩ (kX6_outside l v 1 6) (wa tw259 rfl) (wa tw257 rfl) (wa tw258 rfl) (wa tw1 rfl) (by decide +kernel) ⟨Nat.le_of_ble_eq_true rfl, Nat.le_of_ble_eq_true rfl⟩ pS0 hl.1 rfl (Nat.le_of_ble_eq_true rfl) dX6_rule_42 ⟨Nat.le_of_ble_eq_true rfl, Nat.le_of_ble_eq_true rfl⟩ rfl rfl rfl) ?_
      refine lv_if_ne (tgt := 66) hx hb dX6_rule_45 (by decide) (fun c_3 => ?_) (fun c_3 => ?_)
      · refine lv_ldc hx hb hown (hW _ (wa tw260 rfl)) dX6_rule_66 ?_
        have hb_0 : (f6_rule_Rt Rt what v) = Rt := (by simp only [f6_rule, f6_rule_Rt, if_neg c_1, if_pos c_2, if_neg c_3])
        have hP9 : va_P D vwCl (((wX ax am af ap ab ar) ++ (wR ar C (f6_rule_Rt Rt what v)))) s.heap := by rw [hb_0]; exact hP
        have hD9 : va_D A (((wX ax am af ap ab ar) ++ (wR ar C (f6_rule_Rt Rt what v)))) := by rw [hb_0]; exact hD
        exact W.iret (v := (-100002)) hx hb hr (fun t ht _ => ⟨⟨_, (), rfl, (by simp only [f6_rule, f6_rule_Rt, if_neg c_1, if_pos c_2, if_neg c_3]), ⟨by rw [ht]; exact hP9, by rw [hAe]; exact hD9⟩⟩, hS.F ht⟩) hS.2.2 dX6_rule_68
      · refine lv_aload_n hx hb dX6_rule_48 rfl (lv_at hl 0 rfl) ?_
        refine va_get (D := D) (ci := 6) (C := RX6) (T := TX6) (N := 5) hx hb hW inX6 hown hK hP 0 rfl rfl 4 (by decide) (hW _ (wa tw241 rfl)) (fun _ h9 => h9) rfl dX6_rule_49 ?_
        refine va_getN (D := D) (host := "FieldAfterField") (ci := 4) (C := RX4) (T := TX4) (N := 7) hx hb hW inX4 hown hK hP 1 rfl rfl 5 (by decide) (va_Nw.use rfl (hNw _ tw219 rfl)) (fun _ h9 => h9) rfl dX6_rule_52 ?_
        refine lv_istore_n (lv' := [(3, .int (Rt 7 1)), (0, .ref (ax 0)), (1, .int what), (2, .int v)]) hx hb dX6_rule_55 rfl hl (by decide) rfl (fun ls hl => ?_)
        refine lv_aload_n hx hb dX6_rule_56 rfl (lv_at hl 1 rfl) ?_
        refine va_get (D := D) (ci := 6) (C := RX6) (T := TX6) (N := 5) hx hb hW inX6 hown hK hP 0 rfl rfl 4 (by decide) (hW _ (wa tw241 rfl)) (fun _ h9 => h9) rfl dX6_rule_57 ?_
        refine lv_iload_n hx hb dX6_rule_60 rfl (lv_at hl 3 rfl) ?_
        refine va_putN (D := D) (v := .int v) (ty := .int) (host := "FieldAfterField") (ci := 4) (C := RX4) (T := TX4) (N := 7) hx hb hW inX4 tyX4 tyX4_ok nmX4 hown hK hP hD hS 1 rfl rfl 5 (by decide) (va_Nw.use rfl (hNw _ tw219 rfl)) (fun _ h9 => h9) rfl (by decide +kernel) rfl rfl (Nat.le_of_ble_eq_true rfl) dX6_rule_61 (fun H locs hP hD hS => ?_)
        have hP : va_P D vwCl [((ax 0), .inr (6, [.ref (am 0), .ref (af 0), .ref (ap 0), .ref (ab 0), .ref (ar 0)])), ((ar 0), .inr (4, [.ref (ar 1), .ref (ar 6), .ref (ar 7), .ref (ar 8), .int (Rt 7 0), .int v, .int (Rt 7 2)])), ((ar 1), eII C 4 (rr ar 2 4)), ((ar 2), eI C 6 (Rt 0)), ((ar 3), eI C 6 (Rt 1)), ((ar 4), eI C 6 (Rt 2)), ((ar 5), eI C 6 (Rt 3)), ((ar 6), eI C 6 (Rt 4)), ((ar 7), eI C 6 (Rt 5)), ((ar 8), eI C 4 (Rt 6))] H := hP
        have hD : va_D A [((ax 0), .inr (6, [.ref (am 0), .ref (af 0), .ref (ap 0), .ref (ab 0), .ref (ar 0)])), ((ar 0), .inr (4, [.ref (ar 1), .ref (ar 6), .ref (ar 7), .ref (ar 8), .int (Rt 7 0), .int v, .int (Rt 7 2)])), ((ar 1), eII C 4 (rr ar 2 4)), ((ar 2), eI C 6 (Rt 0)), ((ar 3), eI C 6 (Rt 1)), ((ar 4), eI C 6 (Rt 2)), ((ar 5), eI C 6 (Rt 3)), ((ar 6), eI C 6 (Rt 4)), ((ar 7), eI C 6 (Rt 5)), ((ar 8), eI C 4 (Rt 6))] := hD
        refine lv_iload_n hx hb dX6_rule_64 rfl (lv_at hl 0 rfl) ?_
        have hb_0 : (f6_rule_Rt Rt what v) = uM Rt 7 (upd (Rt 7) 1 v) := (by simp only [f6_rule, f6_rule_Rt, if_neg c_1, if_pos c_2, if_pos c_3])
        have hP9 : va_P D vwCl (((wX ax am af ap ab ar) ++ (wR ar C (f6_rule_Rt Rt what v)))) H := by rw [hb_0]; exact hP
        have hD9 : va_D A (((wX ax am af ap ab ar) ++ (wR ar C (f6_rule_Rt Rt what v)))) := by rw [hb_0]; exact hD
        exact W.iret (v := Rt 7 1) hx hb hr (fun t ht _ => ⟨⟨_, (), rfl, (by simp only [f6_rule, f6_rule_Rt, if_neg c_1, if_pos c_2, if_pos c_3]), ⟨by rw [ht]; exact hP9, by rw [hAe]; exact hD9⟩⟩, hS.F ht⟩) hS.2.2 dX6_rule_65
  · refine lv_iload_n hx hb dX6_rule_4 rfl (lv_at hl 2 rfl) ?_
    refine lv_iconst (v := 0) hx hb dX6_rule_5 (by decide) ?_
    refine lv_sipush (v := 1998) hx hb dX6_rule_6 (by decide) ?_
    refine xri (r := f6_outside v 0 1998) (rS (As := [.int v, .int 0, .int 1998]) (n := 3) (rest := []) ⟨hx, hb, hml, hown, hW⟩ (kX6_outside l v 0 1998) (wa tw259 rfl) (wa tw257 rfl) (wa tw258 rfl) (wa tw1 rfl) (by decide +kernel) ⟨Nat.le_of_ble_eq_true rfl, Nat.le_of_ble_eq_true rfl⟩ pS0 hl.1 rfl (Nat.le_of_ble_eq_true rfl) dX6_rule_9 ⟨Nat.le_of_ble_eq_true rfl, Nat.le_of_ble_eq_true rfl⟩ rfl rfl rfl) ?_
    refine lv_if_ne (tgt := 33) hx hb dX6_rule_12 (by decide) (fun c_4 => ?_) (fun c_4 => ?_)
    · refine lv_iload_n hx hb dX6_rule_33 rfl (lv_at hl 1 rfl) ?_
      refine lv_iconst (v := 1) hx hb dX6_rule_34 (by decide) ?_
      refine lv_icmp_ne (tgt := 66) hx hb dX6_rule_35 (by decide) (fun c_5 => ?_) (fun c_5 => ?_)
      · refine lv_ldc hx hb hown (hW _ (wa tw260 rfl)) dX6_rule_66 ?_
        have hb_0 : (f6_rule_Rt Rt what v) = Rt := (by simp only [f6_rule, f6_rule_Rt, if_pos c_1, if_neg c_4, if_neg c_5])
        have hP9 : va_P D vwCl (((wX ax am af ap ab ar) ++ (wR ar C (f6_rule_Rt Rt what v)))) s.heap := by rw [hb_0]; exact hP
        have hD9 : va_D A (((wX ax am af ap ab ar) ++ (wR ar C (f6_rule_Rt Rt what v)))) := by rw [hb_0]; exact hD
        exact W.iret (v := (-100002)) hx hb hr (fun t ht _ => ⟨⟨_, (), rfl, (by simp only [f6_rule, f6_rule_Rt, if_pos c_1, if_neg c_4, if_neg c_5]), ⟨by rw [ht]; exact hP9, by rw [hAe]; exact hD9⟩⟩, hS.F ht⟩) hS.2.2 dX6_rule_68
      · exact absurd (c_1.symm.trans c_5) (by decide)
    · refine lv_aload_n hx hb dX6_rule_15 rfl (lv_at hl 0 rfl) ?_
      refine va_get (D := D) (ci := 6) (C := RX6) (T := TX6) (N := 5) hx hb hW inX6 hown hK hP 0 rfl rfl 4 (by decide) (hW _ (wa tw241 rfl)) (fun _ h9 => h9) rfl dX6_rule_16 ?_
      refine va_getN (D := D) (host := "FieldAfterField") (ci := 4) (C := RX4) (T := TX4) (N := 7) hx hb hW inX4 hown hK hP 1 rfl rfl 4 (by decide) (va_Nw.use rfl (hNw _ tw217 rfl)) (fun _ h9 => h9) rfl dX6_rule_19 ?_
      refine lv_istore_n (lv' := [(3, .int (Rt 7 0)), (0, .ref (ax 0)), (1, .int what), (2, .int v)]) hx hb dX6_rule_22 rfl hl (by decide) rfl (fun ls hl => ?_)
      refine lv_aload_n hx hb dX6_rule_23 rfl (lv_at hl 1 rfl) ?_
      refine va_get (D := D) (ci := 6) (C := RX6) (T := TX6) (N := 5) hx hb hW inX6 hown hK hP 0 rfl rfl 4 (by decide) (hW _ (wa tw241 rfl)) (fun _ h9 => h9) rfl dX6_rule_24 ?_
      refine lv_iload_n hx hb dX6_rule_27 rfl (lv_at hl 3 rfl) ?_
      refine va_putN (D := D) (v := .int v) (ty := .int) (host := "FieldAfterField") (ci := 4) (C := RX4) (T := TX4) (N := 7) hx hb hW inX4 tyX4 tyX4_ok nmX4 hown hK hP hD hS 1 rfl rfl 4 (by decide) (va_Nw.use rfl (hNw _ tw217 rfl)) (fun _ h9 => h9) rfl (by decide +kernel) rfl rfl (Nat.le_of_ble_eq_true rfl) dX6_rule_28 (fun H locs hP hD hS => ?_)
      have hP : va_P D vwCl [((ax 0), .inr (6, [.ref (am 0), .ref (af 0), .ref (ap 0), .ref (ab 0), .ref (ar 0)])), ((ar 0), .inr (4, [.ref (ar 1), .ref (ar 6), .ref (ar 7), .ref (ar 8), .int v, .int (Rt 7 1), .int (Rt 7 2)])), ((ar 1), eII C 4 (rr ar 2 4)), ((ar 2), eI C 6 (Rt 0)), ((ar 3), eI C 6 (Rt 1)), ((ar 4), eI C 6 (Rt 2)), ((ar 5), eI C 6 (Rt 3)), ((ar 6), eI C 6 (Rt 4)), ((ar 7), eI C 6 (Rt 5)), ((ar 8), eI C 4 (Rt 6))] H := hP
      have hD : va_D A [((ax 0), .inr (6, [.ref (am 0), .ref (af 0), .ref (ap 0), .ref (ab 0), .ref (ar 0)])), ((ar 0), .inr (4, [.ref (ar 1), .ref (ar 6), .ref (ar 7), .ref (ar 8), .int v, .int (Rt 7 1), .int (Rt 7 2)])), ((ar 1), eII C 4 (rr ar 2 4)), ((ar 2), eI C 6 (Rt 0)), ((ar 3), eI C 6 (Rt 1)), ((ar 4), eI C 6 (Rt 2)), ((ar 5), eI C 6 (Rt 3)), ((ar 6), eI C 6 (Rt 4)), ((ar 7), eI C 6 (Rt 5)), ((ar 8), eI C 4 (Rt 6))] := hD
      refine lv_iload_n hx hb dX6_rule_31 rfl (lv_at hl 0 rfl) ?_
      have hb_0 : (f6_rule_Rt Rt what v) = uM Rt 7 (upd (Rt 7) 0 v) := (by simp only [f6_rule, f6_rule_Rt, if_pos c_1, if_pos c_4])
      have hP9 : va_P D vwCl (((wX ax am af ap ab ar) ++ (wR ar C (f6_rule_Rt Rt what v)))) H := by rw [hb_0]; exact hP
      have hD9 : va_D A (((wX ax am af ap ab ar) ++ (wR ar C (f6_rule_Rt Rt what v)))) := by rw [hb_0]; exact hD
      exact W.iret (v := Rt 7 0) hx hb hr (fun t ht _ => ⟨⟨_, (), rfl, (by simp only [f6_rule, f6_rule_Rt, if_pos c_1, if_pos c_4]), ⟨by rw [ht]; exact hP9, by rw [hAe]; exact hD9⟩⟩, hS.F ht⟩) hS.2.2 dX6_rule_32
