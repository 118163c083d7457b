theorem q_in {v lo hi : Int64} : ¬ f7_in v lo hi = 0 ↔ lo.toInt ≤ v.toInt ∧ v.toInt ≤ hi.toInt := by
  unfold f7_in
  have a1 := Int64.lt_iff_toInt_lt (x := v) (y := lo)
  have a2 := Int64.lt_iff_toInt_lt (x := hi) (y := v)
  by_cases h1 : v < lo
  · rw [if_pos h1]
    have := a1.mp h1
    exact ⟨fun h => absurd rfl h, fun h => by omega⟩
  · rw [if_neg h1]
    have q1 : ¬ v.toInt < lo.toInt := fun q => h1 (a1.mpr q)
    by_cases h2 : hi < v
    · rw [if_pos h2]
      have := a2.mp h2
      exact ⟨fun h => absurd rfl h, fun h => by omega⟩
    · rw [if_neg h2]
      have q2 : ¬ hi.toInt < v.toInt := fun q => h2 (a2.mpr q)
      exact ⟨fun _ => ⟨by omega, by omega⟩, fun _ => by decide⟩
theorem q_nat {x : Int32} {n : Nat} (h0 : 0 ≤ x.toInt) (h1 : x.toInt < n) (hn : n ≤ 2 ^ 31) : ∃ k : Nat, k < n ∧ x = nI k := by
  refine ⟨x.toInt.toNat, by omega, ?_⟩
  apply Int32.toInt_inj.mp
  rw [nI_toInt (by omega)]
  omega
theorem q_pred {N : Nat} (h : N ≤ 2 ^ 20) : (nI N - 1).toInt = (N : Int) - 1 := by
  rcases N with _ | n
  · decide
  · rw [nI_pred, nI_toInt (by omega)]
    omega
theorem q_isMark {Z : Nat → Nat → Int32} {N : Nat} {x : Int32} (hN : Z 12 0 = nI N) (hN12 : N ≤ 12) (h : ¬ f7_isMark Z x = 0) : ∃ k : Nat, k < N ∧ x = nI k := by
  unfold f7_isMark at h
  rw [hN, q_in, Int32.toInt_toInt64, Int32.toInt_toInt64, q_pred (by omega)] at h
  exact q_nat h.1 (by omega) (by omega)
theorem q_inC {x : Int32} {hi : Int64} {n : Nat} (hh : hi.toInt = (n : Int) - 1) (hn : n ≤ 2 ^ 20) (h : ¬ f7_in x.toInt64 0 hi = 0) : ∃ k : Nat, k < n ∧ x = nI k := by
  rw [q_in, Int32.toInt_toInt64, hh] at h
  exact q_nat h.1 (by omega) (by omega)
theorem q_isTool {x : Int32} (h : ¬ f7_isTool x = 0) : ∃ k : Nat, k < 4 ∧ x = nI k := q_inC (n := 4) rfl (by decide) h
theorem q_lt12 {Z : Nat → Nat → Int32} {N b : Nat} (hN : Z 12 0 = nI N) (hNb : N ≤ 12) (h : ¬ Z 12 0 = 12) : N < 12 := by
  rcases Nat.lt_or_ge N 12 with q | q
  · exact q
  · exact absurd (by rw [hN, show N = 12 by omega]; rfl) h
theorem q_lt60 {x : Int32} {N : Nat} (hN : x = nI N) (hNb : N ≤ 60) (h : ¬ x = 60) : N < 60 := by
  rcases Nat.lt_or_ge N 60 with q | q
  · exact q
  · exact absurd (by rw [hN, show N = 60 by omega]; rfl) h

def f7_mark (Z : Nat → Nat → Int32) (N : Nat) (f g i j : Int32) : Int32 := (if (f7_in f.toInt64 (-5) 5) = 0 then ((-100002)) else (if (f7_in g.toInt64 (-5) 5) = 0 then ((-100002)) else (if (f7_in i.toInt64 (-3) 3) = 0 then ((-100002)) else (if (f7_in j.toInt64 (-3) 3) = 0 then ((-100002)) else (if (Z 12 0) = 12 then ((-100004)) else (((Z 12 0) + 1) - 1))))))
def f7_mark_Z (Z : Nat → Nat → Int32) (N : Nat) (f g i j : Int32) : Nat → Nat → Int32 := (if (f7_in f.toInt64 (-5) 5) = 0 then (Z) else (if (f7_in g.toInt64 (-5) 5) = 0 then (Z) else (if (f7_in i.toInt64 (-3) 3) = 0 then (Z) else (if (f7_in j.toInt64 (-3) 3) = 0 then (Z) else (if (Z 12 0) = 12 then (Z) else (uM (uM (uM (uM (uM Z 0 (upd (upd (upd (upd (Z 0) (4 * N) f) ((4 * N) + 1) g) ((4 * N) + 2) i) ((4 * N) + 3) j)) 1 (upd (upd (Z 1) (2 * N) 0) ((2 * N) + 1) 0)) 2 (upd (Z 2) N 1)) 3 (upd (Z 3) N 0)) 12 (upd (Z 12) 0 ((Z 12 0) + 1))))))))
set_option maxHeartbeats 4000000 in
set_option maxRecDepth 100000 in
theorem kX7_mark (l : Launch) (D : va_G) (C : Nat → ClassId) (a : Nat → Nat) (Z : Nat → Nat → Int32) (Y : Nat → Nat → Int64) (f g i j : Int32) (sz : Nat) (N : Nat) (hN : Z 12 0 = nI N) (hN12 : N ≤ 12) : Wi l D C yX7_mark cX7_mark 5 .int 1 [.ref (a 0), .int f, .int g, .int i, .int j] (wZ a C Z Y) ((wZ a C (f7_mark_Z Z N f g i j) Y)) (f7_mark Z N f g i j) sz := by
  refine Met.ofW (cc := cX7_mark) (maxL := 5) (ret := (some .int)) (by decide) rfl ?_
  intro p e s m args below meth c s₁ B hml hv
  obtain ⟨rfl, hsz, hP, hK, hNw, hD0⟩ := hv
  have hx := B.exec
  have hb := B.bytes
  have hr := B.returns
  have hts := atoms_spec (ws := wm yX7_mark cX7_mark 5 (some .int)) B.pre
  have hown : s.vm.findClass RX7 = some m.cls := findClass_of_methodNamed B.named
  have hlocks := B.notSynchronized
  have hW : ∀ w ∈ WA, w.before _ s = true := fun w h => hts w (List.mem_cons_of_mem _ h)
  subst hsz
  have hD := hD0.self (sz := s.heap.size)
  generalize hAe : va_A (wZ a C Z Y) s.heap.size = A at hD ⊢
  have hA : ∀ q : Nat, s.heap.size ≤ q → A q := fun q h => by rw [← hAe]; exact Or.inr h
  have hS : va_S A s.heap s.heap [] := va_S.rf
  have hP : va_P D vwCl [((a 0), .inr (7, [.int (Z 12 0), .ref (a 1), .ref (a 2), .ref (a 3), .ref (a 4), .int (Z 12 1), .ref (a 5), .ref (a 6), .ref (a 7), .ref (a 8), .ref (a 9), .int (Z 12 2), .ref (a 10), .int (Z 12 3), .int (Z 12 4), .ref (a 11), .ref (a 12), .long (Y 5 0), .ref (a 13), .ref (a 14), .ref (a 15), .ref (a 16), .ref (a 17)])), ((a 1), eI C 48 (Z 0)), ((a 2), eI C 24 (Z 1)), ((a 3), eZ C 12 (Z 2)), ((a 4), eZ C 12 (Z 3)), ((a 5), eI C 60 (Z 4)), ((a 6), eI C 60 (Z 5)), ((a 7), eI C 60 (Z 6)), ((a 8), eZ C 60 (Z 7)), ((a 9), eZ C 244 (Z 8)), ((a 10), eI C 24 (Z 9)), ((a 11), eJ C 9 (Y 0)), ((a 12), eJ C 9 (Y 1)), ((a 13), eJ C 3 (Y 2)), ((a 14), eJ C 3 (Y 3)), ((a 15), eJ C 12 (Y 4)), ((a 16), eI C 6 (Z 10)), ((a 17), eI C 4 (Z 11))] s.heap := hP
  have hD : va_D A [((a 0), .inr (7, [.int (Z 12 0), .ref (a 1), .ref (a 2), .ref (a 3), .ref (a 4), .int (Z 12 1), .ref (a 5), .ref (a 6), .ref (a 7), .ref (a 8), .ref (a 9), .int (Z 12 2), .ref (a 10), .int (Z 12 3), .int (Z 12 4), .ref (a 11), .ref (a 12), .long (Y 5 0), .ref (a 13), .ref (a 14), .ref (a 15), .ref (a 16), .ref (a 17)])), ((a 1), eI C 48 (Z 0)), ((a 2), eI C 24 (Z 1)), ((a 3), eZ C 12 (Z 2)), ((a 4), eZ C 12 (Z 3)), ((a 5), eI C 60 (Z 4)), ((a 6), eI C 60 (Z 5)), ((a 7), eI C 60 (Z 6)), ((a 8), eZ C 60 (Z 7)), ((a 9), eZ C 244 (Z 8)), ((a 10), eI C 24 (Z 9)), ((a 11), eJ C 9 (Y 0)), ((a 12), eJ C 9 (Y 1)), ((a 13), eJ C 3 (Y 2)), ((a 14), eJ C 3 (Y 3)), ((a 15), eJ C 12 (Y 4)), ((a 16), eI C 6 (Z 10)), ((a 17), eI C 4 (Z 11))] := hD
  have hl := lv_entry ([.ref (a 0), .int f, .int g, .int i, .int j]) (n := 5) (Nat.le_of_ble_eq_true rfl)
  rw [lg_entry_eq]
  generalize (lg_sl ([.ref (a 0), .int f, .int g, .int i, .int j]) ++ List.replicate (5 - (lg_sl ([.ref (a 0), .int f, .int g, .int i, .int j])).length) Slot.unset).toArray = ls at hl ⊢
  have hl : lv_has ls 5 [(0, .ref (a 0)), (1, .int f), (2, .int g), (3, .int i), (4, .int j)] := hl
  refine lv_iload_n hx hb dX7_mark_0 rfl (lv_at hl 1 rfl) ?_
  refine lv_i2l (v := f.toInt64) hx hb dX7_mark_1 rfl ?_
  refine lv_ldc2 hx hb hown (hW _ (wa tw624 rfl)) dX7_mark_2 ?_
  refine lv_ldc2 hx hb hown (hW _ (wa tw625 rfl)) dX7_mark_5 ?_
  refine xri (r := f7_in f.toInt64 (-5) 5) (rS (As := [.long f.toInt64, .long (-5), .long 5]) (n := 3) (rest := []) ⟨hx, hb, hml, hown, hW⟩ (kX7_in l f.toInt64 (-5) 5) (wa tw628 rfl) (wa tw626 rfl) (wa tw627 rfl) (wa tw8 rfl) (by decide +kernel) ⟨Nat.le_of_ble_eq_true rfl, Nat.le_of_ble_eq_true rfl⟩ pS0 hl.1 rfl (Nat.le_of_ble_eq_true rfl) dX7_mark_8 ⟨Nat.le_of_ble_eq_true rfl, Nat.le_of_ble_eq_true rfl⟩ rfl rfl rfl) ?_
  refine lv_if_eq (tgt := 57) hx hb dX7_mark_11 (by decide) (fun c_1 => ?_) (fun c_1 => ?_)
  · refine lv_ldc hx hb hown (hW _ (wa tw631 rfl)) dX7_mark_57 ?_
    have hb_0 : (f7_mark_Z Z N f g i j) = Z := (by simp only [f7_mark, f7_mark_Z, if_pos c_1])
    have hP9 : va_P D vwCl ((wZ a C (f7_mark_Z Z N f g i j) Y)) s.heap := by rw [hb_0]; exact hP
    have hD9 : va_D A ((wZ a C (f7_mark_Z Z N f g i j) Y)) := by rw [hb_0]; exact hD
    exact W.iret (v := (-100002)) hx hb hr (fun t ht _ => ⟨⟨_, (), rfl, (by simp only [f7_mark, f7_mark_Z, if_pos c_1]), ⟨by rw [ht]; exact hP9, by rw [hAe]; exact hD9⟩⟩, hS.F ht⟩) hS.2.2 dX7_mark_59
  · refine lv_iload_n hx hb dX7_mark_14 rfl (lv_at hl 2 rfl) ?_
    refine lv_i2l (v := g.toInt64) hx hb dX7_mark_15 rfl ?_
    refine lv_ldc2 hx hb hown (hW _ (wa tw624 rfl)) dX7_mark_16 ?_
    refine lv_ldc2 hx hb hown (hW _ (wa tw625 rfl)) dX7_mark_19 ?_
    refine xri (r := f7_in g.toInt64 (-5) 5) (rS (As := [.long g.toInt64, .long (-5), .long 5]) (n := 3) (rest := []) ⟨hx, hb, hml, hown, hW⟩ (kX7_in l g.toInt64 (-5) 5) (wa tw628 rfl) (wa tw626 rfl) (wa tw627 rfl) (wa tw8 rfl) (by decide +kernel) ⟨Nat.le_of_ble_eq_true rfl, Nat.le_of_ble_eq_true rfl⟩ pS0 hl.1 rfl (Nat.le_of_ble_eq_true rfl) dX7_mark_22 ⟨Nat.le_of_ble_eq_true rfl, Nat.le_of_ble_eq_true rfl⟩ rfl rfl rfl) ?_
    refine lv_if_eq (tgt := 57) hx hb dX7_mark_25 (by decide) (fun c_2 => ?_) (fun c_2 => ?_)
    · refine lv_ldc hx hb hown (hW _ (wa tw631 rfl)) dX7_mark_57 ?_
      have hb_0 : (f7_mark_Z Z N f g i j) = Z := (by simp only [f7_mark, f7_mark_Z, if_neg c_1, if_pos c_2])
      have hP9 : va_P D vwCl ((wZ a C (f7_mark_Z Z N f g i j) Y)) s.heap := by rw [hb_0]; exact hP
      have hD9 : va_D A ((wZ a C (f7_mark_Z Z N f g i j) Y)) := by rw [hb_0]; exact hD
      exact W.iret (v := (-100002)) hx hb hr (fun t ht _ => ⟨⟨_, (), rfl, (by simp only [f7_mark, f7_mark_Z, if_neg c_1, if_pos c_2]), ⟨by rw [ht]; exact hP9, by rw [hAe]; exact hD9⟩⟩, hS.F ht⟩) hS.2.2 dX7_mark_59
    · refine lv_iload_n hx hb dX7_mark_28 rfl (lv_at hl 3 rfl) ?_
      refine lv_i2l (v := i.toInt64) hx hb dX7_mark_29 rfl ?_
      refine lv_ldc2 hx hb hown (hW _ (wa tw629 rfl)) dX7_mark_30 ?_
      refine lv_ldc2 hx hb hown (hW _ (wa tw630 rfl)) dX7_mark_33 ?_
      refine xri (r := f7_in i.toInt64 (-3) 3) (rS (As := [.long i.toInt64, .long (-3), .long 3]) (n := 3) (rest := []) ⟨hx, hb, hml, hown, hW⟩ (kX7_in l i.toInt64 (-3) 3) (wa tw628 rfl) (wa tw626 rfl) (wa tw627 rfl) (wa tw8 rfl) (by decide +kernel) ⟨Nat.le_of_ble_eq_true rfl, Nat.le_of_ble_eq_true rfl⟩ pS0 hl.1 rfl (Nat.le_of_ble_eq_true rfl) dX7_mark_36 ⟨Nat.le_of_ble_eq_true rfl, Nat.le_of_ble_eq_true rfl⟩ rfl rfl rfl) ?_
      refine lv_if_eq (tgt := 57) hx hb dX7_mark_39 (by decide) (fun c_3 => ?_) (fun c_3 => ?_)
      · refine lv_ldc hx hb hown (hW _ (wa tw631 rfl)) dX7_mark_57 ?_
        have hb_0 : (f7_mark_Z Z N f g i j) = Z := (by simp only [f7_mark, f7_mark_Z, if_neg c_1, if_neg c_2, if_pos c_3])
        have hP9 : va_P D vwCl ((wZ a C (f7_mark_Z Z N f g i j) Y)) s.heap := by rw [hb_0]; exact hP
        have hD9 : va_D A ((wZ a C (f7_mark_Z Z N f g i j) Y)) := by rw [hb_0]; exact hD
        exact W.iret (v := (-100002)) hx hb hr (fun t ht _ => ⟨⟨_, (), rfl, (by simp only [f7_mark, f7_mark_Z, if_neg c_1, if_neg c_2, if_pos c_3]), ⟨by rw [ht]; exact hP9, by rw [hAe]; exact hD9⟩⟩, hS.F ht⟩) hS.2.2 dX7_mark_59
      · refine lv_iload hx hb dX7_mark_42 (lv_at hl 4 rfl) ?_
        refine lv_i2l (v := j.toInt64) hx hb dX7_mark_44 rfl ?_
        refine lv_ldc2 hx hb hown (hW _ (wa tw629 rfl)) dX7_mark_45 ?_
        refine lv_ldc2 hx hb hown (hW _ (wa tw630 rfl)) dX7_mark_48 ?_
        refine xri (r := f7_in j.toInt64 (-3) 3) (rS (As := [.long j.toInt64, .long (-3), .long 3]) (n := 3) (rest := []) ⟨hx, hb, hml, hown, hW⟩ (kX7_in l j.toInt64 (-3) 3) (wa tw628 rfl) (wa tw626 rfl) (wa tw627 rfl) (wa tw8 rfl) (by decide +kernel) ⟨Nat.le_of_ble_eq_true rfl, Nat.le_of_ble_eq_true rfl⟩ pS0 hl.1 rfl (Nat.le_of_ble_eq_true rfl) dX7_mark_51 ⟨Nat.le_of_ble_eq_true rfl, Nat.le_of_ble_eq_true rfl⟩ rfl rfl rfl) ?_
        refine lv_if_ne (tgt := 60) hx hb dX7_mark_54 (by decide) (fun c_4 => ?_) (fun c_4 => ?_)
        · refine lv_aload_n hx hb dX7_mark_60 rfl (lv_at hl 0 rfl) ?_
          refine va_get (D := D) (ci := 7) (C := RX7) (T := TX7) (N := 23) hx hb hW inX7 hown hK hP 0 rfl rfl 0 (by decide) (hW _ (wa tw550 rfl)) (fun _ h9 => h9) rfl dX7_mark_61 ?_
          refine lv_bipush (v := 12) hx hb dX7_mark_64 (by decide) ?_
          refine lv_icmp_ne (tgt := 72) hx hb dX7_mark_66 (by decide) (fun c_5 => ?_) (fun c_5 => ?_)
          · have hlt : N < 12 := q_lt12 (b := 0) hN hN12 c_5
            refine lv_aload_n hx hb dX7_mark_72 rfl (lv_at hl 0 rfl) ?_
            refine va_get (D := D) (ci := 7) (C := RX7) (T := TX7) (N := 23) hx hb hW inX7 hown hK hP 0 rfl rfl 1 (by decide) (hW _ (wa tw551 rfl)) (fun _ h9 => h9) rfl dX7_mark_73 ?_
            refine lv_iconst (v := 4) hx hb dX7_mark_76 (by decide) ?_
            refine lv_aload_n hx hb dX7_mark_77 rfl (lv_at hl 0 rfl) ?_
            refine va_get (D := D) (ci := 7) (C := RX7) (T := TX7) (N := 23) hx hb hW inX7 hown hK hP 0 rfl rfl 0 (by decide) (hW _ (wa tw550 rfl)) (fun _ h9 => h9) rfl dX7_mark_78 ?_
            refine lv_imul hx hb dX7_mark_81 ?_
            refine lv_iload_n hx hb dX7_mark_82 rfl (lv_at hl 1 rfl) ?_
            refine xiast hx hb hK hP hD hS 1 rfl (4 * N) (q_mul (nI_lit 4) hN) (by omega) (by decide) dX7_mark_83 (fun H locs hP hD hS => ?_)
            have hP : va_P D vwCl [((a 0), .inr (7, [.int (Z 12 0), .ref (a 1), .ref (a 2), .ref (a 3), .ref (a 4), .int (Z 12 1), .ref (a 5), .ref (a 6), .ref (a 7), .ref (a 8), .ref (a 9), .int (Z 12 2), .ref (a 10), .int (Z 12 3), .int (Z 12 4), .ref (a 11), .ref (a 12), .long (Y 5 0), .ref (a 13), .ref (a 14), .ref (a 15), .ref (a 16), .ref (a 17)])), ((a 1), eI C 48 (upd (Z 0) (4 * N) f)), ((a 2), eI C 24 (Z 1)), ((a 3), eZ C 12 (Z 2)), ((a 4), eZ C 12 (Z 3)), ((a 5), eI C 60 (Z 4)), ((a 6), eI C 60 (Z 5)), ((a 7), eI C 60 (Z 6)), ((a 8), eZ C 60 (Z 7)), ((a 9), eZ C 244 (Z 8)), ((a 10), eI C 24 (Z 9)), ((a 11), eJ C 9 (Y 0)), ((a 12), eJ C 9 (Y 1)), ((a 13), eJ C 3 (Y 2)), ((a 14), eJ C 3 (Y 3)), ((a 15), eJ C 12 (Y 4)), ((a 16), eI C 6 (Z 10)), ((a 17), eI C 4 (Z 11))] H := hP
            have hD : va_D A [((a 0), .inr (7, [.int (Z 12 0), .ref (a 1), .ref (a 2), .ref (a 3), .ref (a 4), .int (Z 12 1), .ref (a 5), .ref (a 6), .ref (a 7), .ref (a 8), .ref (a 9), .int (Z 12 2), .ref (a 10), .int (Z 12 3), .int (Z 12 4), .ref (a 11), .ref (a 12), .long (Y 5 0), .ref (a 13), .ref (a 14), .ref (a 15), .ref (a 16), .ref (a 17)])), ((a 1), eI C 48 (upd (Z 0) (4 * N) f)), ((a 2), eI C 24 (Z 1)), ((a 3), eZ C 12 (Z 2)), ((a 4), eZ C 12 (Z 3)), ((a 5), eI C 60 (Z 4)), ((a 6), eI C 60 (Z 5)), ((a 7), eI C 60 (Z 6)), ((a 8), eZ C 60 (Z 7)), ((a 9), eZ C 244 (Z 8)), ((a 10), eI C 24 (Z 9)), ((a 11), eJ C 9 (Y 0)), ((a 12), eJ C 9 (Y 1)), ((a 13), eJ C 3 (Y 2)), ((a 14), eJ C 3 (Y 3)), ((a 15), eJ C 12 (Y 4)), ((a 16), eI C 6 (Z 10)), ((a 17), eI C 4 (Z 11))] := hD
            refine lv_aload_n hx hb dX7_mark_84 rfl (lv_at hl 0 rfl) ?_
            refine va_get (D := D) (ci := 7) (C := RX7) (T := TX7) (N := 23) hx hb hW inX7 hown hK hP 0 rfl rfl 1 (by decide) (hW _ (wa tw551 rfl)) (fun _ h9 => h9) rfl dX7_mark_85 ?_
            refine lv_iconst (v := 4) hx hb dX7_mark_88 (by decide) ?_
            refine lv_aload_n hx hb dX7_mark_89 rfl (lv_at hl 0 rfl) ?_
            refine va_get (D := D) (ci := 7) (C := RX7) (T := TX7) (N := 23) hx hb hW inX7 hown hK hP 0 rfl rfl 0 (by decide) (hW _ (wa tw550 rfl)) (fun _ h9 => h9) rfl dX7_mark_90 ?_
            refine lv_imul hx hb dX7_mark_93 ?_
            refine lv_iconst (v := 1) hx hb dX7_mark_94 (by decide) ?_
            refine lv_iadd hx hb dX7_mark_95 ?_
            refine lv_iload_n hx hb dX7_mark_96 rfl (lv_at hl 2 rfl) ?_
            refine xiast hx hb hK hP hD hS 1 rfl ((4 * N) + 1) (q_add (q_mul (nI_lit 4) hN) (nI_lit 1)) (by omega) (by decide) dX7_mark_97 (fun H locs hP hD hS => ?_)
            have hP : va_P D vwCl [((a 0), .inr (7, [.int (Z 12 0), .ref (a 1), .ref (a 2), .ref (a 3), .ref (a 4), .int (Z 12 1), .ref (a 5), .ref (a 6), .ref (a 7), .ref (a 8), .ref (a 9), .int (Z 12 2), .ref (a 10), .int (Z 12 3), .int (Z 12 4), .ref (a 11), .ref (a 12), .long (Y 5 0), .ref (a 13), .ref (a 14), .ref (a 15), .ref (a 16), .ref (a 17)])), ((a 1), eI C 48 (upd (upd (Z 0) (4 * N) f) ((4 * N) + 1) g)), ((a 2), eI C 24 (Z 1)), ((a 3), eZ C 12 (Z 2)), ((a 4), eZ C 12 (Z 3)), ((a 5), eI C 60 (Z 4)), ((a 6), eI C 60 (Z 5)), ((a 7), eI C 60 (Z 6)), ((a 8), eZ C 60 (Z 7)), ((a 9), eZ C 244 (Z 8)), ((a 10), eI C 24 (Z 9)), ((a 11), eJ C 9 (Y 0)), ((a 12), eJ C 9 (Y 1)), ((a 13), eJ C 3 (Y 2)), ((a 14), eJ C 3 (Y 3)), ((a 15), eJ C 12 (Y 4)), ((a 16), eI C 6 (Z 10)), ((a 17), eI C 4 (Z 11))] H := hP
            have hD : va_D A [((a 0), .inr (7, [.int (Z 12 0), .ref (a 1), .ref (a 2), .ref (a 3), .ref (a 4), .int (Z 12 1), .ref (a 5), .ref (a 6), .ref (a 7), .ref (a 8), .ref (a 9), .int (Z 12 2), .ref (a 10), .int (Z 12 3), .int (Z 12 4), .ref (a 11), .ref (a 12), .long (Y 5 0), .ref (a 13), .ref (a 14), .ref (a 15), .ref (a 16), .ref (a 17)])), ((a 1), eI C 48 (upd (upd (Z 0) (4 * N) f) ((4 * N) + 1) g)), ((a 2), eI C 24 (Z 1)), ((a 3), eZ C 12 (Z 2)), ((a 4), eZ C 12 (Z 3)), ((a 5), eI C 60 (Z 4)), ((a 6), eI C 60 (Z 5)), ((a 7), eI C 60 (Z 6)), ((a 8), eZ C 60 (Z 7)), ((a 9), eZ C 244 (Z 8)), ((a 10), eI C 24 (Z 9)), ((a 11), eJ C 9 (Y 0)), ((a 12), eJ C 9 (Y 1)), ((a 13), eJ C 3 (Y 2)), ((a 14), eJ C 3 (Y 3)), ((a 15), eJ C 12 (Y 4)), ((a 16), eI C 6 (Z 10)), ((a 17), eI C 4 (Z 11))] := hD
            refine lv_aload_n hx hb dX7_mark_98 rfl (lv_at hl 0 rfl) ?_
            refine va_get (D := D) (ci := 7) (C := RX7) (T := TX7) (N := 23) hx hb hW inX7 hown hK hP 0 rfl rfl 1 (by decide) (hW _ (wa tw551 rfl)) (fun _ h9 => h9) rfl dX7_mark_99 ?_
            refine lv_iconst (v := 4) hx hb dX7_mark_102 (by decide) ?_
            refine lv_aload_n hx hb dX7_mark_103 rfl (lv_at hl 0 rfl) ?_
            refine va_get (D := D) (ci := 7) (C := RX7) (T := TX7) (N := 23) hx hb hW inX7 hown hK hP 0 rfl rfl 0 (by decide) (hW _ (wa tw550 rfl)) (fun _ h9 => h9) rfl dX7_mark_104 ?_
            refine lv_imul hx hb dX7_mark_107 ?_
            refine lv_iconst (v := 2) hx hb dX7_mark_108 (by decide) ?_
            refine lv_iadd hx hb dX7_mark_109 ?_
            refine lv_iload_n hx hb dX7_mark_110 rfl (lv_at hl 3 rfl) ?_
            refine xiast hx hb hK hP hD hS 1 rfl ((4 * N) + 2) (q_add (q_mul (nI_lit 4) hN) (nI_lit 2)) (by omega) (by decide) dX7_mark_111 (fun H locs hP hD hS => ?_)
            have hP : va_P D vwCl [((a 0), .inr (7, [.int (Z 12 0), .ref (a 1), .ref (a 2), .ref (a 3), .ref (a 4), .int (Z 12 1), .ref (a 5), .ref (a 6), .ref (a 7), .ref (a 8), .ref (a 9), .int (Z 12 2), .ref (a 10), .int (Z 12 3), .int (Z 12 4), .ref (a 11), .ref (a 12), .long (Y 5 0), .ref (a 13), .ref (a 14), .ref (a 15), .ref (a 16), .ref (a 17)])), ((a 1), eI C 48 (upd (upd (upd (Z 0) (4 * N) f) ((4 * N) + 1) g) ((4 * N) + 2) i)), ((a 2), eI C 24 (Z 1)), ((a 3), eZ C 12 (Z 2)), ((a 4), eZ C 12 (Z 3)), ((a 5), eI C 60 (Z 4)), ((a 6), eI C 60 (Z 5)), ((a 7), eI C 60 (Z 6)), ((a 8), eZ C 60 (Z 7)), ((a 9), eZ C 244 (Z 8)), ((a 10), eI C 24 (Z 9)), ((a 11), eJ C 9 (Y 0)), ((a 12), eJ C 9 (Y 1)), ((a 13), eJ C 3 (Y 2)), ((a 14), eJ C 3 (Y 3)), ((a 15), eJ C 12 (Y 4)), ((a 16), eI C 6 (Z 10)), ((a 17), eI C 4 (Z 11))] H := hP
            have hD : va_D A [((a 0), .inr (7, [.int (Z 12 0), .ref (a 1), .ref (a 2), .ref (a 3), .ref (a 4), .int (Z 12 1), .ref (a 5), .ref (a 6), .ref (a 7), .ref (a 8), .ref (a 9), .int (Z 12 2), .ref (a 10), .int (Z 12 3), .int (Z 12 4), .ref (a 11), .ref (a 12), .long (Y 5 0), .ref (a 13), .ref (a 14), .ref (a 15), .ref (a 16), .ref (a 17)])), ((a 1), eI C 48 (upd (upd (upd (Z 0) (4 * N) f) ((4 * N) + 1) g) ((4 * N) + 2) i)), ((a 2), eI C 24 (Z 1)), ((a 3), eZ C 12 (Z 2)), ((a 4), eZ C 12 (Z 3)), ((a 5), eI C 60 (Z 4)), ((a 6), eI C 60 (Z 5)), ((a 7), eI C 60 (Z 6)), ((a 8), eZ C 60 (Z 7)), ((a 9), eZ C 244 (Z 8)), ((a 10), eI C 24 (Z 9)), ((a 11), eJ C 9 (Y 0)), ((a 12), eJ C 9 (Y 1)), ((a 13), eJ C 3 (Y 2)), ((a 14), eJ C 3 (Y 3)), ((a 15), eJ C 12 (Y 4)), ((a 16), eI C 6 (Z 10)), ((a 17), eI C 4 (Z 11))] := hD
            refine lv_aload_n hx hb dX7_mark_112 rfl (lv_at hl 0 rfl) ?_
            refine va_get (D := D) (ci := 7) (C := RX7) (T := TX7) (N := 23) hx hb hW inX7 hown hK hP 0 rfl rfl 1 (by decide) (hW _ (wa tw551 rfl)) (fun _ h9 => h9) rfl dX7_mark_113 ?_
            refine lv_iconst (v := 4) hx hb dX7_mark_116 (by decide) ?_
            refine lv_aload_n hx hb dX7_mark_117 rfl (lv_at hl 0 rfl) ?_
            refine va_get (D := D) (ci := 7) (C := RX7) (T := TX7) (N := 23) hx hb hW inX7 hown hK hP 0 rfl rfl 0 (by decide) (hW _ (wa tw550 rfl)) (fun _ h9 => h9) rfl dX7_mark_118 ?_
            refine lv_imul hx hb dX7_mark_121 ?_
            refine lv_iconst (v := 3) hx hb dX7_mark_122 (by decide) ?_
            refine lv_iadd hx hb dX7_mark_123 ?_
            refine lv_iload hx hb dX7_mark_124 (lv_at hl 4 rfl) ?_
            refine xiast hx hb hK hP hD hS 1 rfl ((4 * N) + 3) (q_add (q_mul (nI_lit 4) hN) (nI_lit 3)) (by omega) (by decide) dX7_mark_126 (fun H locs hP hD hS => ?_)
            have hP : va_P D vwCl [((a 0), .inr (7, [.int (Z 12 0), .ref (a 1), .ref (a 2), .ref (a 3), .ref (a 4), .int (Z 12 1), .ref (a 5), .ref (a 6), .ref (a 7), .ref (a 8), .ref (a 9), .int (Z 12 2), .ref (a 10), .int (Z 12 3), .int (Z 12 4), .ref (a 11), .ref (a 12), .long (Y 5 0), .ref (a 13), .ref (a 14), .ref (a 15), .ref (a 16), .ref (a 17)])), ((a 1), eI C 48 (upd (upd (upd (upd (Z 0) (4 * N) f) ((4 * N) + 1) g) ((4 * N) + 2) i) ((4 * N) + 3) j)), ((a 2), eI C 24 (Z 1)), ((a 3), eZ C 12 (Z 2)), ((a 4), eZ C 12 (Z 3)), ((a 5), eI C 60 (Z 4)), ((a 6), eI C 60 (Z 5)), ((a 7), eI C 60 (Z 6)), ((a 8), eZ C 60 (Z 7)), ((a 9), eZ C 244 (Z 8)), ((a 10), eI C 24 (Z 9)), ((a 11), eJ C 9 (Y 0)), ((a 12), eJ C 9 (Y 1)), ((a 13), eJ C 3 (Y 2)), ((a 14), eJ C 3 (Y 3)), ((a 15), eJ C 12 (Y 4)), ((a 16), eI C 6 (Z 10)), ((a 17), eI C 4 (Z 11))] H := hP
            have hD : va_D A [((a 0), .inr (7, [.int (Z 12 0), .ref (a 1), .ref (a 2), .ref (a 3), .ref (a 4), .int (Z 12 1), .ref (a 5), .ref (a 6), .ref (a 7), .ref (a 8), .ref (a 9), .int (Z 12 2), .ref (a 10), .int (Z 12 3), .int (Z 12 4), .ref (a 11), .ref (a 12), .long (Y 5 0), .ref (a 13), .ref (a 14), .ref (a 15), .ref (a 16), .ref (a 17)])), ((a 1), eI C 48 (upd (upd (upd (upd (Z 0) (4 * N) f) ((4 * N) + 1) g) ((4 * N) + 2) i) ((4 * N) + 3) j)), ((a 2), eI C 24 (Z 1)), ((a 3), eZ C 12 (Z 2)), ((a 4), eZ C 12 (Z 3)), ((a 5), eI C 60 (Z 4)), ((a 6), eI C 60 (Z 5)), ((a 7), eI C 60 (Z 6)), ((a 8), eZ C 60 (Z 7)), ((a 9), eZ C 244 (Z 8)), ((a 10), eI C 24 (Z 9)), ((a 11), eJ C 9 (Y 0)), ((a 12), eJ C 9 (Y 1)), ((a 13), eJ C 3 (Y 2)), ((a 14), eJ C 3 (Y 3)), ((a 15), eJ C 12 (Y 4)), ((a 16), eI C 6 (Z 10)), ((a 17), eI C 4 (Z 11))] := hD
            refine lv_aload_n hx hb dX7_mark_127 rfl (lv_at hl 0 rfl) ?_
            refine va_get (D := D) (ci := 7) (C := RX7) (T := TX7) (N := 23) hx hb hW inX7 hown hK hP 0 rfl rfl 2 (by decide) (hW _ (wa tw552 rfl)) (fun _ h9 => h9) rfl dX7_mark_128 ?_
            refine lv_iconst (v := 2) hx hb dX7_mark_131 (by decide) ?_
            refine lv_aload_n hx hb dX7_mark_132 rfl (lv_at hl 0 rfl) ?_
            refine va_get (D := D) (ci := 7) (C := RX7) (T := TX7) (N := 23) hx hb hW inX7 hown hK hP 0 rfl rfl 0 (by decide) (hW _ (wa tw550 rfl)) (fun _ h9 => h9) rfl dX7_mark_133 ?_
            refine lv_imul hx hb dX7_mark_136 ?_
            refine lv_iconst (v := 0) hx hb dX7_mark_137 (by decide) ?_
            refine xiast hx hb hK hP hD hS 2 rfl (2 * N) (q_mul (nI_lit 2) hN) (by omega) (by decide) dX7_mark_138 (fun H locs hP hD hS => ?_)
            have hP : va_P D vwCl [((a 0), .inr (7, [.int (Z 12 0), .ref (a 1), .ref (a 2), .ref (a 3), .ref (a 4), .int (Z 12 1), .ref (a 5), .ref (a 6), .ref (a 7), .ref (a 8), .ref (a 9), .int (Z 12 2), .ref (a 10), .int (Z 12 3), .int (Z 12 4), .ref (a 11), .ref (a 12), .long (Y 5 0), .ref (a 13), .ref (a 14), .ref (a 15), .ref (a 16), .ref (a 17)])), ((a 1), eI C 48 (upd (upd (upd (upd (Z 0) (4 * N) f) ((4 * N) + 1) g) ((4 * N) + 2) i) ((4 * N) + 3) j)), ((a 2), eI C 24 (upd (Z 1) (2 * N) 0)), ((a 3), eZ C 12 (Z 2)), ((a 4), eZ C 12 (Z 3)), ((a 5), eI C 60 (Z 4)), ((a 6), eI C 60 (Z 5)), ((a 7), eI C 60 (Z 6)), ((a 8), eZ C 60 (Z 7)), ((a 9), eZ C 244 (Z 8)), ((a 10), eI C 24 (Z 9)), ((a 11), eJ C 9 (Y 0)), ((a 12), eJ C 9 (Y 1)), ((a 13), eJ C 3 (Y 2)), ((a 14), eJ C 3 (Y 3)), ((a 15), eJ C 12 (Y 4)), ((a 16), eI C 6 (Z 10)), ((a 17), eI C 4 (Z 11))] H := hP
            have hD : va_D A [((a 0), .inr (7, [.int (Z 12 0), .ref (a 1), .ref (a 2), .ref (a 3), .ref (a 4), .int (Z 12 1), .ref (a 5), .ref (a 6), .ref (a 7), .ref (a 8), .ref (a 9), .int (Z 12 2), .ref (a 10), .int (Z 12 3), .int (Z 12 4), .ref (a 11), .ref (a 12), .long (Y 5 0), .ref (a 13), .ref (a 14), .ref (a 15), .ref (a 16), .ref (a 17)])), ((a 1), eI C 48 (upd (upd (upd (upd (Z 0) (4 * N) f) ((4 * N) + 1) g) ((4 * N) + 2) i) ((4 * N) + 3) j)), ((a 2), eI C 24 (upd (Z 1) (2 * N) 0)), ((a 3), eZ C 12 (Z 2)), ((a 4), eZ C 12 (Z 3)), ((a 5), eI C 60 (Z 4)), ((a 6), eI C 60 (Z 5)), ((a 7), eI C 60 (Z 6)), ((a 8), eZ C 60 (Z 7)), ((a 9), eZ C 244 (Z 8)), ((a 10), eI C 24 (Z 9)), ((a 11), eJ C 9 (Y 0)), ((a 12), eJ C 9 (Y 1)), ((a 13), eJ C 3 (Y 2)), ((a 14), eJ C 3 (Y 3)), ((a 15), eJ C 12 (Y 4)), ((a 16), eI C 6 (Z 10)), ((a 17), eI C 4 (Z 11))] := hD
            refine lv_aload_n hx hb dX7_mark_139 rfl (lv_at hl 0 rfl) ?_
            refine va_get (D := D) (ci := 7) (C := RX7) (T := TX7) (N := 23) hx hb hW inX7 hown hK hP 0 rfl rfl 2 (by decide) (hW _ (wa tw552 rfl)) (fun _ h9 => h9) rfl dX7_mark_140 ?_
            refine lv_iconst (v := 2) hx hb dX7_mark_143 (by decide) ?_
            refine lv_aload_n hx hb dX7_mark_144 rfl (lv_at hl 0 rfl) ?_
            refine va_get (D := D) (ci := 7) (C := RX7) (T := TX7) (N := 23) hx hb hW inX7 hown hK hP 0 rfl rfl 0 (by decide) (hW _ (wa tw550 rfl)) (fun _ h9 => h9) rfl dX7_mark_145 ?_
            refine lv_imul hx hb dX7_mark_148 ?_
            refine lv_iconst (v := 1) hx hb dX7_mark_149 (by decide) ?_
            refine lv_iadd hx hb dX7_mark_150 ?_
            refine lv_iconst (v := 0) hx hb dX7_mark_151 (by decide) ?_
            refine xiast hx hb hK hP hD hS 2 rfl ((2 * N) + 1) (q_add (q_mul (nI_lit 2) hN) (nI_lit 1)) (by omega) (by decide) dX7_mark_152 (fun H locs hP hD hS => ?_)
            have hP : va_P D vwCl [((a 0), .inr (7, [.int (Z 12 0), .ref (a 1), .ref (a 2), .ref (a 3), .ref (a 4), .int (Z 12 1), .ref (a 5), .ref (a 6), .ref (a 7), .ref (a 8), .ref (a 9), .int (Z 12 2), .ref (a 10), .int (Z 12 3), .int (Z 12 4), .ref (a 11), .ref (a 12), .long (Y 5 0), .ref (a 13), .ref (a 14), .ref (a 15), .ref (a 16), .ref (a 17)])), ((a 1), eI C 48 (upd (upd (upd (upd (Z 0) (4 * N) f) ((4 * N) + 1) g) ((4 * N) + 2) i) ((4 * N) + 3) j)), ((a 2), eI C 24 (upd (upd (Z 1) (2 * N) 0) ((2 * N) + 1) 0)), ((a 3), eZ C 12 (Z 2)), ((a 4), eZ C 12 (Z 3)), ((a 5), eI C 60 (Z 4)), ((a 6), eI C 60 (Z 5)), ((a 7), eI C 60 (Z 6)), ((a 8), eZ C 60 (Z 7)), ((a 9), eZ C 244 (Z 8)), ((a 10), eI C 24 (Z 9)), ((a 11), eJ C 9 (Y 0)), ((a 12), eJ C 9 (Y 1)), ((a 13), eJ C 3 (Y 2)), ((a 14), eJ C 3 (Y 3)), ((a 15), eJ C 12 (Y 4)), ((a 16), eI C 6 (Z 10)), ((a 17), eI C 4 (Z 11))] H := hP
            have hD : va_D A [((a 0), .inr (7, [.int (Z 12 0), .ref (a 1), .ref (a 2), .ref (a 3), .ref (a 4), .int (Z 12 1), .ref (a 5), .ref (a 6), .ref (a 7), .ref (a 8), .ref (a 9), .int (Z 12 2), .ref (a 10), .int (Z 12 3), .int (Z 12 4), .ref (a 11), .ref (a 12), .long (Y 5 0), .ref (a 13), .ref (a 14), .ref (a 15), .ref (a 16), .ref (a 17)])), ((a 1), eI C 48 (upd (upd (upd (upd (Z 0) (4 * N) f) ((4 * N) + 1) g) ((4 * N) + 2) i) ((4 * N) + 3) j)), ((a 2), eI C 24 (upd (upd (Z 1) (2 * N) 0) ((2 * N) + 1) 0)), ((a 3), eZ C 12 (Z 2)), ((a 4), eZ C 12 (Z 3)), ((a 5), eI C 60 (Z 4)), ((a 6), eI C 60 (Z 5)), ((a 7), eI C 60 (Z 6)), ((a 8), eZ C 60 (Z 7)), ((a 9), eZ C 244 (Z 8)), ((a 10), eI C 24 (Z 9)), ((a 11), eJ C 9 (Y 0)), ((a 12), eJ C 9 (Y 1)), ((a 13), eJ C 3 (Y 2)), ((a 14), eJ C 3 (Y 3)), ((a 15), eJ C 12 (Y 4)), ((a 16), eI C 6 (Z 10)), ((a 17), eI C 4 (Z 11))] := hD
            refine lv_aload_n hx hb dX7_mark_153 rfl (lv_at hl 0 rfl) ?_
            refine va_get (D := D) (ci := 7) (C := RX7) (T := TX7) (N := 23) hx hb hW inX7 hown hK hP 0 rfl rfl 3 (by decide) (hW _ (wa tw553 rfl)) (fun _ h9 => h9) rfl dX7_mark_154 ?_
            refine lv_aload_n hx hb dX7_mark_157 rfl (lv_at hl 0 rfl) ?_
            refine va_get (D := D) (ci := 7) (C := RX7) (T := TX7) (N := 23) hx hb hW inX7 hown hK hP 0 rfl rfl 0 (by decide) (hW _ (wa tw550 rfl)) (fun _ h9 => h9) rfl dX7_mark_158 ?_
            refine lv_iconst (v := 1) hx hb dX7_mark_161 (by decide) ?_
            refine xzast hx hb hK hP hD hS 3 rfl N hN (by omega) (by decide) (by decide) dX7_mark_162 (fun H locs hP hD hS => ?_)
            have hP : va_P D vwCl [((a 0), .inr (7, [.int (Z 12 0), .ref (a 1), .ref (a 2), .ref (a 3), .ref (a 4), .int (Z 12 1), .ref (a 5), .ref (a 6), .ref (a 7), .ref (a 8), .ref (a 9), .int (Z 12 2), .ref (a 10), .int (Z 12 3), .int (Z 12 4), .ref (a 11), .ref (a 12), .long (Y 5 0), .ref (a 13), .ref (a 14), .ref (a 15), .ref (a 16), .ref (a 17)])), ((a 1), eI C 48 (upd (upd (upd (upd (Z 0) (4 * N) f) ((4 * N) + 1) g) ((4 * N) + 2) i) ((4 * N) + 3) j)), ((a 2), eI C 24 (upd (upd (Z 1) (2 * N) 0) ((2 * N) + 1) 0)), ((a 3), eZ C 12 (upd (Z 2) N 1)), ((a 4), eZ C 12 (Z 3)), ((a 5), eI C 60 (Z 4)), ((a 6), eI C 60 (Z 5)), ((a 7), eI C 60 (Z 6)), ((a 8), eZ C 60 (Z 7)), ((a 9), eZ C 244 (Z 8)), ((a 10), eI C 24 (Z 9)), ((a 11), eJ C 9 (Y 0)), ((a 12), eJ C 9 (Y 1)), ((a 13), eJ C 3 (Y 2)), ((a 14), eJ C 3 (Y 3)), ((a 15), eJ C 12 (Y 4)), ((a 16), eI C 6 (Z 10)), ((a 17), eI C 4 (Z 11))] H := hP
            have hD : va_D A [((a 0), .inr (7, [.int (Z 12 0), .ref (a 1), .ref (a 2), .ref (a 3), .ref (a 4), .int (Z 12 1), .ref (a 5), .ref (a 6), .ref (a 7), .ref (a 8), .ref (a 9), .int (Z 12 2), .ref (a 10), .int (Z 12 3), .int (Z 12 4), .ref (a 11), .ref (a 12), .long (Y 5 0), .ref (a 13), .ref (a 14), .ref (a 15), .ref (a 16), .ref (a 17)])), ((a 1), eI C 48 (upd (upd (upd (upd (Z 0) (4 * N) f) ((4 * N) + 1) g) ((4 * N) + 2) i) ((4 * N) + 3) j)), ((a 2), eI C 24 (upd (upd (Z 1) (2 * N) 0) ((2 * N) + 1) 0)), ((a 3), eZ C 12 (upd (Z 2) N 1)), ((a 4), eZ C 12 (Z 3)), ((a 5), eI C 60 (Z 4)), ((a 6), eI C 60 (Z 5)), ((a 7), eI C 60 (Z 6)), ((a 8), eZ C 60 (Z 7)), ((a 9), eZ C 244 (Z 8)), ((a 10), eI C 24 (Z 9)), ((a 11), eJ C 9 (Y 0)), ((a 12), eJ C 9 (Y 1)), ((a 13), eJ C 3 (Y 2)), ((a 14), eJ C 3 (Y 3)), ((a 15), eJ C 12 (Y 4)), ((a 16), eI C 6 (Z 10)), ((a 17), eI C 4 (Z 11))] := hD
            refine lv_aload_n hx hb dX7_mark_163 rfl (lv_at hl 0 rfl) ?_
            refine va_get (D := D) (ci := 7) (C := RX7) (T := TX7) (N := 23) hx hb hW inX7 hown hK hP 0 rfl rfl 4 (by decide) (hW _ (wa tw554 rfl)) (fun _ h9 => h9) rfl dX7_mark_164 ?_
            refine lv_aload_n hx hb dX7_mark_167 rfl (lv_at hl 0 rfl) ?_
            refine va_get (D := D) (ci := 7) (C := RX7) (T := TX7) (N := 23) hx hb hW inX7 hown hK hP 0 rfl rfl 0 (by decide) (hW _ (wa tw550 rfl)) (fun _ h9 => h9) rfl dX7_mark_168 ?_
            refine lv_iconst (v := 0) hx hb dX7_mark_171 (by decide) ?_
            refine xzast hx hb hK hP hD hS 4 rfl N hN (by omega) (by decide) (by decide) dX7_mark_172 (fun H locs hP hD hS => ?_)
            have hP : va_P D vwCl [((a 0), .inr (7, [.int (Z 12 0), .ref (a 1), .ref (a 2), .ref (a 3), .ref (a 4), .int (Z 12 1), .ref (a 5), .ref (a 6), .ref (a 7), .ref (a 8), .ref (a 9), .int (Z 12 2), .ref (a 10), .int (Z 12 3), .int (Z 12 4), .ref (a 11), .ref (a 12), .long (Y 5 0), .ref (a 13), .ref (a 14), .ref (a 15), .ref (a 16), .ref (a 17)])), ((a 1), eI C 48 (upd (upd (upd (upd (Z 0) (4 * N) f) ((4 * N) + 1) g) ((4 * N) + 2) i) ((4 * N) + 3) j)), ((a 2), eI C 24 (upd (upd (Z 1) (2 * N) 0) ((2 * N) + 1) 0)), ((a 3), eZ C 12 (upd (Z 2) N 1)), ((a 4), eZ C 12 (upd (Z 3) N 0)), ((a 5), eI C 60 (Z 4)), ((a 6), eI C 60 (Z 5)), ((a 7), eI C 60 (Z 6)), ((a 8), eZ C 60 (Z 7)), ((a 9), eZ C 244 (Z 8)), ((a 10), eI C 24 (Z 9)), ((a 11), eJ C 9 (Y 0)), ((a 12), eJ C 9 (Y 1)), ((a 13), eJ C 3 (Y 2)), ((a 14), eJ C 3 (Y 3)), ((a 15), eJ C 12 (Y 4)), ((a 16), eI C 6 (Z 10)), ((a 17), eI C 4 (Z 11))] H := hP
            have hD : va_D A [((a 0), .inr (7, [.int (Z 12 0), .ref (a 1), .ref (a 2), .ref (a 3), .ref (a 4), .int (Z 12 1), .ref (a 5), .ref (a 6), .ref (a 7), .ref (a 8), .ref (a 9), .int (Z 12 2), .ref (a 10), .int (Z 12 3), .int (Z 12 4), .ref (a 11), .ref (a 12), .long (Y 5 0), .ref (a 13), .ref (a 14), .ref (a 15), .ref (a 16), .ref (a 17)])), ((a 1), eI C 48 (upd (upd (upd (upd (Z 0) (4 * N) f) ((4 * N) + 1) g) ((4 * N) + 2) i) ((4 * N) + 3) j)), ((a 2), eI C 24 (upd (upd (Z 1) (2 * N) 0) ((2 * N) + 1) 0)), ((a 3), eZ C 12 (upd (Z 2) N 1)), ((a 4), eZ C 12 (upd (Z 3) N 0)), ((a 5), eI C 60 (Z 4)), ((a 6), eI C 60 (Z 5)), ((a 7), eI C 60 (Z 6)), ((a 8), eZ C 60 (Z 7)), ((a 9), eZ C 244 (Z 8)), ((a 10), eI C 24 (Z 9)), ((a 11), eJ C 9 (Y 0)), ((a 12), eJ C 9 (Y 1)), ((a 13), eJ C 3 (Y 2)), ((a 14), eJ C 3 (Y 3)), ((a 15), eJ C 12 (Y 4)), ((a 16), eI C 6 (Z 10)), ((a 17), eI C 4 (Z 11))] := hD
            refine lv_aload_n hx hb dX7_mark_173 rfl (lv_at hl 0 rfl) ?_
            refine lv_dup hx hb dX7_mark_174 rfl ?_
            refine va_get (D := D) (ci := 7) (C := RX7) (T := TX7) (N := 23) hx hb hW inX7 hown hK hP 0 rfl rfl 0 (by decide) (hW _ (wa tw550 rfl)) (fun _ h9 => h9) rfl dX7_mark_175 ?_
            refine lv_iconst (v := 1) hx hb dX7_mark_178 (by decide) ?_
            refine lv_iadd hx hb dX7_mark_179 ?_
            refine va_put (D := D) (v := .int ((Z 12 0) + 1)) (ty := .int) (ci := 7) (C := RX7) (T := TX7) (N := 23) hx hb hW inX7 tyX7 tyX7_ok nmX7 hown hK hP hD hS 0 rfl rfl 0 (by decide) (hW _ (wa tw550 rfl)) (fun _ h9 => h9) rfl (by decide +kernel) rfl rfl (Nat.le_of_ble_eq_true rfl) dX7_mark_180 (fun H locs hP hD hS => ?_)
            have hP : va_P D vwCl [((a 0), .inr (7, [.int ((Z 12 0) + 1), .ref (a 1), .ref (a 2), .ref (a 3), .ref (a 4), .int (Z 12 1), .ref (a 5), .ref (a 6), .ref (a 7), .ref (a 8), .ref (a 9), .int (Z 12 2), .ref (a 10), .int (Z 12 3), .int (Z 12 4), .ref (a 11), .ref (a 12), .long (Y 5 0), .ref (a 13), .ref (a 14), .ref (a 15), .ref (a 16), .ref (a 17)])), ((a 1), eI C 48 (upd (upd (upd (upd (Z 0) (4 * N) f) ((4 * N) + 1) g) ((4 * N) + 2) i) ((4 * N) + 3) j)), ((a 2), eI C 24 (upd (upd (Z 1) (2 * N) 0) ((2 * N) + 1) 0)), ((a 3), eZ C 12 (upd (Z 2) N 1)), ((a 4), eZ C 12 (upd (Z 3) N 0)), ((a 5), eI C 60 (Z 4)), ((a 6), eI C 60 (Z 5)), ((a 7), eI C 60 (Z 6)), ((a 8), eZ C 60 (Z 7)), ((a 9), eZ C 244 (Z 8)), ((a 10), eI C 24 (Z 9)), ((a 11), eJ C 9 (Y 0)), ((a 12), eJ C 9 (Y 1)), ((a 13), eJ C 3 (Y 2)), ((a 14), eJ C 3 (Y 3)), ((a 15), eJ C 12 (Y 4)), ((a 16), eI C 6 (Z 10)), ((a 17), eI C 4 (Z 11))] H := hP
            have hD : va_D A [((a 0), .inr (7, [.int ((Z 12 0) + 1), .ref (a 1), .ref (a 2), .ref (a 3), .ref (a 4), .int (Z 12 1), .ref (a 5), .ref (a 6), .ref (a 7), .ref (a 8), .ref (a 9), .int (Z 12 2), .ref (a 10), .int (Z 12 3), .int (Z 12 4), .ref (a 11), .ref (a 12), .long (Y 5 0), .ref (a 13), .ref (a 14), .ref (a 15), .ref (a 16), .ref (a 17)])), ((a 1), eI C 48 (upd (upd (upd (upd (Z 0) (4 * N) f) ((4 * N) + 1) g) ((4 * N) + 2) i) ((4 * N) + 3) j)), ((a 2), eI C 24 (upd (upd (Z 1) (2 * N) 0) ((2 * N) + 1) 0)), ((a 3), eZ C 12 (upd (Z 2) N 1)), ((a 4), eZ C 12 (upd (Z 3) N 0)), ((a 5), eI C 60 (Z 4)), ((a 6), eI C 60 (Z 5)), ((a 7), eI C 60 (Z 6)), ((a 8), eZ C 60 (Z 7)), ((a 9), eZ C 244 (Z 8)), ((a 10), eI C 24 (Z 9)), ((a 11), eJ C 9 (Y 0)), ((a 12), eJ C 9 (Y 1)), ((a 13), eJ C 3 (Y 2)), ((a 14), eJ C 3 (Y 3)), ((a 15), eJ C 12 (Y 4)), ((a 16), eI C 6 (Z 10)), ((a 17), eI C 4 (Z 11))] := hD
            refine lv_aload_n hx hb dX7_mark_183 rfl (lv_at hl 0 rfl) ?_
            refine va_get (D := D) (ci := 7) (C := RX7) (T := TX7) (N := 23) hx hb hW inX7 hown hK hP 0 rfl rfl 0 (by decide) (hW _ (wa tw550 rfl)) (fun _ h9 => h9) rfl dX7_mark_184 ?_
            refine lv_iconst (v := 1) hx hb dX7_mark_187 (by decide) ?_
            refine lv_isub hx hb dX7_mark_188 ?_
            have hb_0 : (f7_mark_Z Z N f g i j) = uM (uM (uM (uM (uM Z 0 (upd (upd (upd (upd (Z 0) (4 * N) f) ((4 * N) + 1) g) ((4 * N) + 2) i) ((4 * N) + 3) j)) 1 (upd (upd (Z 1) (2 * N) 0) ((2 * N) + 1) 0)) 2 (upd (Z 2) N 1)) 3 (upd (Z 3) N 0)) 12 (upd (Z 12) 0 ((Z 12 0) + 1)) := (by simp only [f7_mark, f7_mark_Z, if_neg c_1, if_neg c_2, if_neg c_3, if_neg c_4, if_neg c_5])
            have hP9 : va_P D vwCl ((wZ a C (f7_mark_Z Z N f g i j) Y)) H := by rw [hb_0]; exact hP
            have hD9 : va_D A ((wZ a C (f7_mark_Z Z N f g i j) Y)) := by rw [hb_0]; exact hD
            exact W.iret (v := ((Z 12 0) + 1) - 1) hx hb hr (fun t ht _ => ⟨⟨_, (), rfl, (by simp only [f7_mark, f7_mark_Z, if_neg c_1, if_neg c_2, if_neg c_3, if_neg c_4, if_neg c_5]), ⟨by rw [ht]; exact hP9, by rw [hAe]; exact hD9⟩⟩, hS.F ht⟩) hS.2.2 dX7_mark_189
          · refine lv_ldc hx hb hown (hW _ (wa tw632 rfl)) dX7_mark_69 ?_
            have hb_0 : (f7_mark_Z Z N f g i j) = Z := (by simp only [f7_mark, f7_mark_Z, if_neg c_1, if_neg c_2, if_neg c_3, if_neg c_4, if_pos c_5])
            have hP9 : va_P D vwCl ((wZ a C (f7_mark_Z Z N f g i j) Y)) s.heap := by rw [hb_0]; exact hP
            have hD9 : va_D A ((wZ a C (f7_mark_Z Z N f g i j) Y)) := by rw [hb_0]; exact hD
            exact W.iret (v := (-100004)) hx hb hr (fun t ht _ => ⟨⟨_, (), rfl, (by simp only [f7_mark, f7_mark_Z, if_neg c_1, if_neg c_2, if_neg c_3, if_neg c_4, if_pos c_5]), ⟨by rw [ht]; exact hP9, by rw [hAe]; exact hD9⟩⟩, hS.F ht⟩) hS.2.2 dX7_mark_71
        · refine lv_ldc hx hb hown (hW _ (wa tw631 rfl)) dX7_mark_57 ?_
          have hb_0 : (f7_mark_Z Z N f g i j) = Z := (by simp only [f7_mark, f7_mark_Z, if_neg c_1, if_neg c_2, if_neg c_3, if_pos c_4])
          have hP9 : va_P D vwCl ((wZ a C (f7_mark_Z Z N f g i j) Y)) s.heap := by rw [hb_0]; exact hP
          have hD9 : va_D A ((wZ a C (f7_mark_Z Z N f g i j) Y)) := by rw [hb_0]; exact hD
          exact W.iret (v := (-100002)) hx hb hr (fun t ht _ => ⟨⟨_, (), rfl, (by simp only [f7_mark, f7_mark_Z, if_neg c_1, if_neg c_2, if_neg c_3, if_pos c_4]), ⟨by rw [ht]; exact hP9, by rw [hAe]; exact hD9⟩⟩, hS.F ht⟩) hS.2.2 dX7_mark_59

def f7_read (Z : Nat → Nat → Int32) (x al ac : Int32) : Int32 := (if (f7_isMark Z x) = 0 then ((-100001)) else (if (f7_in al.toInt64 (-999) 999) = 0 then ((-100002)) else (if (f7_in ac.toInt64 (-999) 999) = 0 then ((-100002)) else (1))))
def f7_read_Z (Z : Nat → Nat → Int32) (x al ac : Int32) : Nat → Nat → Int32 := (if (f7_isMark Z x) = 0 then (Z) else (if (f7_in al.toInt64 (-999) 999) = 0 then (Z) else (if (f7_in ac.toInt64 (-999) 999) = 0 then (Z) else (uM (uM (uM Z 1 (upd (upd (Z 1) (2 * (ix x)) al) ((2 * (ix x)) + 1) ac)) 2 (upd (Z 2) (ix x) 0)) 3 (upd (Z 3) (ix x) 0)))))
set_option maxHeartbeats 4000000 in
set_option maxRecDepth 100000 in
theorem kX7_read (l : Launch) (D : va_G) (C : Nat → ClassId) (a : Nat → Nat) (Z : Nat → Nat → Int32) (Y : Nat → Nat → Int64) (x al ac : Int32) (sz : Nat) (N : Nat) (hN : Z 12 0 = nI N) (hN12 : N ≤ 12) : Wi l D C yX7_read cX7_read 4 .int 2 [.ref (a 0), .int x, .int al, .int ac] (wZ a C Z Y) ((wZ a C (f7_read_Z Z x al ac) Y)) (f7_read Z x al ac) sz := by
  refine Met.ofW (cc := cX7_read) (maxL := 4) (ret := (some .int)) (by decide) rfl ?_
  intro p e s m args below meth c s₁ B hml hv
  obtain ⟨rfl, hsz, hP, hK, hNw, hD0⟩ := hv
  have hx := B.exec
  have hb := B.bytes
  have hr := B.returns
  have hts := atoms_spec (ws := wm yX7_read cX7_read 4 (some .int)) B.pre
  have hown : s.vm.findClass RX7 = some m.cls := findClass_of_methodNamed B.named
  have hlocks := B.notSynchronized
  have hW : ∀ w ∈ WA, w.before _ s = true := fun w h => hts w (List.mem_cons_of_mem _ h)
  subst hsz
  have hD := hD0.self (sz := s.heap.size)
  generalize hAe : va_A (wZ a C Z Y) s.heap.size = A at hD ⊢
  have hA : ∀ q : Nat, s.heap.size ≤ q → A q := fun q h => by rw [← hAe]; exact Or.inr h
  have hS : va_S A s.heap s.heap [] := va_S.rf
  have hP : va_P D vwCl [((a 0), .inr (7, [.int (Z 12 0), .ref (a 1), .ref (a 2), .ref (a 3), .ref (a 4), .int (Z 12 1), .ref (a 5), .ref (a 6), .ref (a 7), .ref (a 8), .ref (a 9), .int (Z 12 2), .ref (a 10), .int (Z 12 3), .int (Z 12 4), .ref (a 11), .ref (a 12), .long (Y 5 0), .ref (a 13), .ref (a 14), .ref (a 15), .ref (a 16), .ref (a 17)])), ((a 1), eI C 48 (Z 0)), ((a 2), eI C 24 (Z 1)), ((a 3), eZ C 12 (Z 2)), ((a 4), eZ C 12 (Z 3)), ((a 5), eI C 60 (Z 4)), ((a 6), eI C 60 (Z 5)), ((a 7), eI C 60 (Z 6)), ((a 8), eZ C 60 (Z 7)), ((a 9), eZ C 244 (Z 8)), ((a 10), eI C 24 (Z 9)), ((a 11), eJ C 9 (Y 0)), ((a 12), eJ C 9 (Y 1)), ((a 13), eJ C 3 (Y 2)), ((a 14), eJ C 3 (Y 3)), ((a 15), eJ C 12 (Y 4)), ((a 16), eI C 6 (Z 10)), ((a 17), eI C 4 (Z 11))] s.heap := hP
  have hD : va_D A [((a 0), .inr (7, [.int (Z 12 0), .ref (a 1), .ref (a 2), .ref (a 3), .ref (a 4), .int (Z 12 1), .ref (a 5), .ref (a 6), .ref (a 7), .ref (a 8), .ref (a 9), .int (Z 12 2), .ref (a 10), .int (Z 12 3), .int (Z 12 4), .ref (a 11), .ref (a 12), .long (Y 5 0), .ref (a 13), .ref (a 14), .ref (a 15), .ref (a 16), .ref (a 17)])), ((a 1), eI C 48 (Z 0)), ((a 2), eI C 24 (Z 1)), ((a 3), eZ C 12 (Z 2)), ((a 4), eZ C 12 (Z 3)), ((a 5), eI C 60 (Z 4)), ((a 6), eI C 60 (Z 5)), ((a 7), eI C 60 (Z 6)), ((a 8), eZ C 60 (Z 7)), ((a 9), eZ C 244 (Z 8)), ((a 10), eI C 24 (Z 9)), ((a 11), eJ C 9 (Y 0)), ((a 12), eJ C 9 (Y 1)), ((a 13), eJ C 3 (Y 2)), ((a 14), eJ C 3 (Y 3)), ((a 15), eJ C 12 (Y 4)), ((a 16), eI C 6 (Z 10)), ((a 17), eI C 4 (Z 11))] := hD
  have hl := lv_entry ([.ref (a 0), .int x, .int al, .int ac]) (n := 4) (Nat.le_of_ble_eq_true rfl)
  rw [lg_entry_eq]
  generalize (lg_sl ([.ref (a 0), .int x, .int al, .int ac]) ++ List.replicate (4 - (lg_sl ([.ref (a 0), .int x, .int al, .int ac])).length) Slot.unset).toArray = ls at hl ⊢
  have hl : lv_has ls 4 [(0, .ref (a 0)), (1, .int x), (2, .int al), (3, .int ac)] := hl
  refine lv_aload_n hx hb dX7_read_0 rfl (lv_at hl 0 rfl) ?_
  refine lv_iload_n hx hb dX7_read_1 rfl (lv_at hl 1 rfl) ?_
  refine xri (r := f7_isMark Z x) (rV (As := [.int x]) (n := 1) (rest := []) ⟨hx, hb, hml, hown, hW⟩ (kX7_isMark l D C a Z Y x ) (wa tw640 rfl) (wa tw637 rfl) (wa tw639 rfl) (was ts37 rfl) (wa tw8 rfl) (by decide +kernel) ⟨Nat.le_of_ble_eq_true rfl, Nat.le_of_ble_eq_true rfl⟩ (pVr hP hK hNw 0 rfl rfl) hl.1 rfl (Nat.le_of_ble_eq_true rfl) dX7_read_2 ⟨Nat.le_of_ble_eq_true rfl, Nat.le_of_ble_eq_true rfl⟩ rfl rfl rfl) ?_
  refine lv_if_ne (tgt := 11) hx hb dX7_read_5 (by decide) (fun c_1 => ?_) (fun c_1 => ?_)
  · obtain ⟨k, hk, rfl⟩ := q_isMark hN hN12 c_1
    have hix_k : ix (nI k) = k := ix_nI (by omega)
    refine lv_iload_n hx hb dX7_read_11 rfl (lv_at hl 2 rfl) ?_
    refine lv_i2l (v := al.toInt64) hx hb dX7_read_12 rfl ?_
    refine lv_ldc2 hx hb hown (hW _ (wa tw642 rfl)) dX7_read_13 ?_
    refine lv_ldc2 hx hb hown (hW _ (wa tw643 rfl)) dX7_read_16 ?_
    refine xri (r := f7_in al.toInt64 (-999) 999) (rS (As := [.long al.toInt64, .long (-999), .long 999]) (n := 3) (rest := []) ⟨hx, hb, hml, hown, hW⟩ (kX7_in l al.toInt64 (-999) 999) (wa tw628 rfl) (wa tw626 rfl) (wa tw627 rfl) (wa tw8 rfl) (by decide +kernel) ⟨Nat.le_of_ble_eq_true rfl, Nat.le_of_ble_eq_true rfl⟩ pS0 hl.1 rfl (Nat.le_of_ble_eq_true rfl) dX7_read_19 ⟨Nat.le_of_ble_eq_true rfl, Nat.le_of_ble_eq_true rfl⟩ rfl rfl rfl) ?_
    refine lv_if_eq (tgt := 39) hx hb dX7_read_22 (by decide) (fun c_2 => ?_) (fun c_2 => ?_)
    · refine lv_ldc hx hb hown (hW _ (wa tw631 rfl)) dX7_read_39 ?_
      have hb_0 : (f7_read_Z Z (nI k) al ac) = Z := (by simp only [f7_read, f7_read_Z, if_neg c_1, if_pos c_2, hix_k])
      have hP9 : va_P D vwCl ((wZ a C (f7_read_Z Z (nI k) al ac) Y)) s.heap := by rw [hb_0]; exact hP
      have hD9 : va_D A ((wZ a C (f7_read_Z Z (nI k) al ac) Y)) := by rw [hb_0]; exact hD
      exact W.iret (v := (-100002)) hx hb hr (fun t ht _ => ⟨⟨_, (), rfl, (by simp only [f7_read, f7_read_Z, if_neg c_1, if_pos c_2, hix_k]), ⟨by rw [ht]; exact hP9, by rw [hAe]; exact hD9⟩⟩, hS.F ht⟩) hS.2.2 dX7_read_41
    · refine lv_iload_n hx hb dX7_read_25 rfl (lv_at hl 3 rfl) ?_
      refine lv_i2l (v := ac.toInt64) hx hb dX7_read_26 rfl ?_
      refine lv_ldc2 hx hb hown (hW _ (wa tw642 rfl)) dX7_read_27 ?_
      refine lv_ldc2 hx hb hown (hW _ (wa tw643 rfl)) dX7_read_30 ?_
      refine xri (r := f7_in ac.toInt64 (-999) 999) (rS (As := [.long ac.toInt64, .long (-999), .long 999]) (n := 3) (rest := []) ⟨hx, hb, hml, hown, hW⟩ (kX7_in l ac.toInt64 (-999) 999) (wa tw628 rfl) (wa tw626 rfl) (wa tw627 rfl) (wa tw8 rfl) (by decide +kernel) ⟨Nat.le_of_ble_eq_true rfl, Nat.le_of_ble_eq_true rfl⟩ pS0 hl.1 rfl (Nat.le_of_ble_eq_true rfl) dX7_read_33 ⟨Nat.le_of_ble_eq_true rfl, Nat.le_of_ble_eq_true rfl⟩ rfl rfl rfl) ?_
      refine lv_if_ne (tgt := 42) hx hb dX7_read_36 (by decide) (fun c_3 => ?_) (fun c_3 => ?_)
      · refine lv_aload_n hx hb dX7_read_42 rfl (lv_at hl 0 rfl) ?_
        refine va_get (D := D) (ci := 7) (C := RX7) (T := TX7) (N := 23) hx hb hW inX7 hown hK hP 0 rfl rfl 2 (by decide) (hW _ (wa tw552 rfl)) (fun _ h9 => h9) rfl dX7_read_43 ?_
        refine lv_iconst (v := 2) hx hb dX7_read_46 (by decide) ?_
        refine lv_iload_n hx hb dX7_read_47 rfl (lv_at hl 1 rfl) ?_
        refine lv_imul hx hb dX7_read_48 ?_
        refine lv_iload_n hx hb dX7_read_49 rfl (lv_at hl 2 rfl) ?_
        refine xiast hx hb hK hP hD hS 2 rfl (2 * k) (q_mul (nI_lit 2) rfl) (by omega) (by decide) dX7_read_50 (fun H locs hP hD hS => ?_)
        have hP : va_P D vwCl [((a 0), .inr (7, [.int (Z 12 0), .ref (a 1), .ref (a 2), .ref (a 3), .ref (a 4), .int (Z 12 1), .ref (a 5), .ref (a 6), .ref (a 7), .ref (a 8), .ref (a 9), .int (Z 12 2), .ref (a 10), .int (Z 12 3), .int (Z 12 4), .ref (a 11), .ref (a 12), .long (Y 5 0), .ref (a 13), .ref (a 14), .ref (a 15), .ref (a 16), .ref (a 17)])), ((a 1), eI C 48 (Z 0)), ((a 2), eI C 24 (upd (Z 1) (2 * k) al)), ((a 3), eZ C 12 (Z 2)), ((a 4), eZ C 12 (Z 3)), ((a 5), eI C 60 (Z 4)), ((a 6), eI C 60 (Z 5)), ((a 7), eI C 60 (Z 6)), ((a 8), eZ C 60 (Z 7)), ((a 9), eZ C 244 (Z 8)), ((a 10), eI C 24 (Z 9)), ((a 11), eJ C 9 (Y 0)), ((a 12), eJ C 9 (Y 1)), ((a 13), eJ C 3 (Y 2)), ((a 14), eJ C 3 (Y 3)), ((a 15), eJ C 12 (Y 4)), ((a 16), eI C 6 (Z 10)), ((a 17), eI C 4 (Z 11))] H := hP
        have hD : va_D A [((a 0), .inr (7, [.int (Z 12 0), .ref (a 1), .ref (a 2), .ref (a 3), .ref (a 4), .int (Z 12 1), .ref (a 5), .ref (a 6), .ref (a 7), .ref (a 8), .ref (a 9), .int (Z 12 2), .ref (a 10), .int (Z 12 3), .int (Z 12 4), .ref (a 11), .ref (a 12), .long (Y 5 0), .ref (a 13), .ref (a 14), .ref (a 15), .ref (a 16), .ref (a 17)])), ((a 1), eI C 48 (Z 0)), ((a 2), eI C 24 (upd (Z 1) (2 * k) al)), ((a 3), eZ C 12 (Z 2)), ((a 4), eZ C 12 (Z 3)), ((a 5), eI C 60 (Z 4)), ((a 6), eI C 60 (Z 5)), ((a 7), eI C 60 (Z 6)), ((a 8), eZ C 60 (Z 7)), ((a 9), eZ C 244 (Z 8)), ((a 10), eI C 24 (Z 9)), ((a 11), eJ C 9 (Y 0)), ((a 12), eJ C 9 (Y 1)), ((a 13), eJ C 3 (Y 2)), ((a 14), eJ C 3 (Y 3)), ((a 15), eJ C 12 (Y 4)), ((a 16), eI C 6 (Z 10)), ((a 17), eI C 4 (Z 11))] := hD
        refine lv_aload_n hx hb dX7_read_51 rfl (lv_at hl 0 rfl) ?_
        refine va_get (D := D) (ci := 7) (C := RX7) (T := TX7) (N := 23) hx hb hW inX7 hown hK hP 0 rfl rfl 2 (by decide) (hW _ (wa tw552 rfl)) (fun _ h9 => h9) rfl dX7_read_52 ?_
        refine lv_iconst (v := 2) hx hb dX7_read_55 (by decide) ?_
        refine lv_iload_n hx hb dX7_read_56 rfl (lv_at hl 1 rfl) ?_
        refine lv_imul hx hb dX7_read_57 ?_
        refine lv_iconst (v := 1) hx hb dX7_read_58 (by decide) ?_
        refine lv_iadd hx hb dX7_read_59 ?_
        refine lv_iload_n hx hb dX7_read_60 rfl (lv_at hl 3 rfl) ?_
        refine xiast hx hb hK hP hD hS 2 rfl ((2 * k) + 1) (q_add (q_mul (nI_lit 2) rfl) (nI_lit 1)) (by omega) (by decide) dX7_read_61 (fun H locs hP hD hS => ?_)
        have hP : va_P D vwCl [((a 0), .inr (7, [.int (Z 12 0), .ref (a 1), .ref (a 2), .ref (a 3), .ref (a 4), .int (Z 12 1), .ref (a 5), .ref (a 6), .ref (a 7), .ref (a 8), .ref (a 9), .int (Z 12 2), .ref (a 10), .int (Z 12 3), .int (Z 12 4), .ref (a 11), .ref (a 12), .long (Y 5 0), .ref (a 13), .ref (a 14), .ref (a 15), .ref (a 16), .ref (a 17)])), ((a 1), eI C 48 (Z 0)), ((a 2), eI C 24 (upd (upd (Z 1) (2 * k) al) ((2 * k) + 1) ac)), ((a 3), eZ C 12 (Z 2)), ((a 4), eZ C 12 (Z 3)), ((a 5), eI C 60 (Z 4)), ((a 6), eI C 60 (Z 5)), ((a 7), eI C 60 (Z 6)), ((a 8), eZ C 60 (Z 7)), ((a 9), eZ C 244 (Z 8)), ((a 10), eI C 24 (Z 9)), ((a 11), eJ C 9 (Y 0)), ((a 12), eJ C 9 (Y 1)), ((a 13), eJ C 3 (Y 2)), ((a 14), eJ C 3 (Y 3)), ((a 15), eJ C 12 (Y 4)), ((a 16), eI C 6 (Z 10)), ((a 17), eI C 4 (Z 11))] H := hP
        have hD : va_D A [((a 0), .inr (7, [.int (Z 12 0), .ref (a 1), .ref (a 2), .ref (a 3), .ref (a 4), .int (Z 12 1), .ref (a 5), .ref (a 6), .ref (a 7), .ref (a 8), .ref (a 9), .int (Z 12 2), .ref (a 10), .int (Z 12 3), .int (Z 12 4), .ref (a 11), .ref (a 12), .long (Y 5 0), .ref (a 13), .ref (a 14), .ref (a 15), .ref (a 16), .ref (a 17)])), ((a 1), eI C 48 (Z 0)), ((a 2), eI C 24 (upd (upd (Z 1) (2 * k) al) ((2 * k) + 1) ac)), ((a 3), eZ C 12 (Z 2)), ((a 4), eZ C 12 (Z 3)), ((a 5), eI C 60 (Z 4)), ((a 6), eI C 60 (Z 5)), ((a 7), eI C 60 (Z 6)), ((a 8), eZ C 60 (Z 7)), ((a 9), eZ C 244 (Z 8)), ((a 10), eI C 24 (Z 9)), ((a 11), eJ C 9 (Y 0)), ((a 12), eJ C 9 (Y 1)), ((a 13), eJ C 3 (Y 2)), ((a 14), eJ C 3 (Y 3)), ((a 15), eJ C 12 (Y 4)), ((a 16), eI C 6 (Z 10)), ((a 17), eI C 4 (Z 11))] := hD
        refine lv_aload_n hx hb dX7_read_62 rfl (lv_at hl 0 rfl) ?_
        refine va_get (D := D) (ci := 7) (C := RX7) (T := TX7) (N := 23) hx hb hW inX7 hown hK hP 0 rfl rfl 3 (by decide) (hW _ (wa tw553 rfl)) (fun _ h9 => h9) rfl dX7_read_63 ?_
        refine lv_iload_n hx hb dX7_read_66 rfl (lv_at hl 1 rfl) ?_
        refine lv_iconst (v := 0) hx hb dX7_read_67 (by decide) ?_
        refine xzast hx hb hK hP hD hS 3 rfl k rfl (by omega) (by decide) (by decide) dX7_read_68 (fun H locs hP hD hS => ?_)
        have hP : va_P D vwCl [((a 0), .inr (7, [.int (Z 12 0), .ref (a 1), .ref (a 2), .ref (a 3), .ref (a 4), .int (Z 12 1), .ref (a 5), .ref (a 6), .ref (a 7), .ref (a 8), .ref (a 9), .int (Z 12 2), .ref (a 10), .int (Z 12 3), .int (Z 12 4), .ref (a 11), .ref (a 12), .long (Y 5 0), .ref (a 13), .ref (a 14), .ref (a 15), .ref (a 16), .ref (a 17)])), ((a 1), eI C 48 (Z 0)), ((a 2), eI C 24 (upd (upd (Z 1) (2 * k) al) ((2 * k) + 1) ac)), ((a 3), eZ C 12 (upd (Z 2) k 0)), ((a 4), eZ C 12 (Z 3)), ((a 5), eI C 60 (Z 4)), ((a 6), eI C 60 (Z 5)), ((a 7), eI C 60 (Z 6)), ((a 8), eZ C 60 (Z 7)), ((a 9), eZ C 244 (Z 8)), ((a 10), eI C 24 (Z 9)), ((a 11), eJ C 9 (Y 0)), ((a 12), eJ C 9 (Y 1)), ((a 13), eJ C 3 (Y 2)), ((a 14), eJ C 3 (Y 3)), ((a 15), eJ C 12 (Y 4)), ((a 16), eI C 6 (Z 10)), ((a 17), eI C 4 (Z 11))] H := hP
        have hD : va_D A [((a 0), .inr (7, [.int (Z 12 0), .ref (a 1), .ref (a 2), .ref (a 3), .ref (a 4), .int (Z 12 1), .ref (a 5), .ref (a 6), .ref (a 7), .ref (a 8), .ref (a 9), .int (Z 12 2), .ref (a 10), .int (Z 12 3), .int (Z 12 4), .ref (a 11), .ref (a 12), .long (Y 5 0), .ref (a 13), .ref (a 14), .ref (a 15), .ref (a 16), .ref (a 17)])), ((a 1), eI C 48 (Z 0)), ((a 2), eI C 24 (upd (upd (Z 1) (2 * k) al) ((2 * k) + 1) ac)), ((a 3), eZ C 12 (upd (Z 2) k 0)), ((a 4), eZ C 12 (Z 3)), ((a 5), eI C 60 (Z 4)), ((a 6), eI C 60 (Z 5)), ((a 7), eI C 60 (Z 6)), ((a 8), eZ C 60 (Z 7)), ((a 9), eZ C 244 (Z 8)), ((a 10), eI C 24 (Z 9)), ((a 11), eJ C 9 (Y 0)), ((a 12), eJ C 9 (Y 1)), ((a 13), eJ C 3 (Y 2)), ((a 14), eJ C 3 (Y 3)), ((a 15), eJ C 12 (Y 4)), ((a 16), eI C 6 (Z 10)), ((a 17), eI C 4 (Z 11))] := hD
        refine lv_aload_n hx hb dX7_read_69 rfl (lv_at hl 0 rfl) ?_
        refine va_get (D := D) (ci := 7) (C := RX7) (T := TX7) (N := 23) hx hb hW inX7 hown hK hP 0 rfl rfl 4 (by decide) (hW _ (wa tw554 rfl)) (fun _ h9 => h9) rfl dX7_read_70 ?_
        refine lv_iload_n hx hb dX7_read_73 rfl (lv_at hl 1 rfl) ?_
        refine lv_iconst (v := 0) hx hb dX7_read_74 (by decide) ?_
        refine xzast hx hb hK hP hD hS 4 rfl k rfl (by omega) (by decide) (by decide) dX7_read_75 (fun H locs hP hD hS => ?_)
        have hP : va_P D vwCl [((a 0), .inr (7, [.int (Z 12 0), .ref (a 1), .ref (a 2), .ref (a 3), .ref (a 4), .int (Z 12 1), .ref (a 5), .ref (a 6), .ref (a 7), .ref (a 8), .ref (a 9), .int (Z 12 2), .ref (a 10), .int (Z 12 3), .int (Z 12 4), .ref (a 11), .ref (a 12), .long (Y 5 0), .ref (a 13), .ref (a 14), .ref (a 15), .ref (a 16), .ref (a 17)])), ((a 1), eI C 48 (Z 0)), ((a 2), eI C 24 (upd (upd (Z 1) (2 * k) al) ((2 * k) + 1) ac)), ((a 3), eZ C 12 (upd (Z 2) k 0)), ((a 4), eZ C 12 (upd (Z 3) k 0)), ((a 5), eI C 60 (Z 4)), ((a 6), eI C 60 (Z 5)), ((a 7), eI C 60 (Z 6)), ((a 8), eZ C 60 (Z 7)), ((a 9), eZ C 244 (Z 8)), ((a 10), eI C 24 (Z 9)), ((a 11), eJ C 9 (Y 0)), ((a 12), eJ C 9 (Y 1)), ((a 13), eJ C 3 (Y 2)), ((a 14), eJ C 3 (Y 3)), ((a 15), eJ C 12 (Y 4)), ((a 16), eI C 6 (Z 10)), ((a 17), eI C 4 (Z 11))] H := hP
        have hD : va_D A [((a 0), .inr (7, [.int (Z 12 0), .ref (a 1), .ref (a 2), .ref (a 3), .ref (a 4), .int (Z 12 1), .ref (a 5), .ref (a 6), .ref (a 7), .ref (a 8), .ref (a 9), .int (Z 12 2), .ref (a 10), .int (Z 12 3), .int (Z 12 4), .ref (a 11), .ref (a 12), .long (Y 5 0), .ref (a 13), .ref (a 14), .ref (a 15), .ref (a 16), .ref (a 17)])), ((a 1), eI C 48 (Z 0)), ((a 2), eI C 24 (upd (upd (Z 1) (2 * k) al) ((2 * k) + 1) ac)), ((a 3), eZ C 12 (upd (Z 2) k 0)), ((a 4), eZ C 12 (upd (Z 3) k 0)), ((a 5), eI C 60 (Z 4)), ((a 6), eI C 60 (Z 5)), ((a 7), eI C 60 (Z 6)), ((a 8), eZ C 60 (Z 7)), ((a 9), eZ C 244 (Z 8)), ((a 10), eI C 24 (Z 9)), ((a 11), eJ C 9 (Y 0)), ((a 12), eJ C 9 (Y 1)), ((a 13), eJ C 3 (Y 2)), ((a 14), eJ C 3 (Y 3)), ((a 15), eJ C 12 (Y 4)), ((a 16), eI C 6 (Z 10)), ((a 17), eI C 4 (Z 11))] := hD
        refine lv_iconst (v := 1) hx hb dX7_read_76 (by decide) ?_
        have hb_0 : (f7_read_Z Z (nI k) al ac) = uM (uM (uM Z 1 (upd (upd (Z 1) (2 * k) al) ((2 * k) + 1) ac)) 2 (upd (Z 2) k 0)) 3 (upd (Z 3) k 0) := (by simp only [f7_read, f7_read_Z, if_neg c_1, if_neg c_2, if_neg c_3, hix_k])
        have hP9 : va_P D vwCl ((wZ a C (f7_read_Z Z (nI k) al ac) Y)) H := by rw [hb_0]; exact hP
        have hD9 : va_D A ((wZ a C (f7_read_Z Z (nI k) al ac) Y)) := by rw [hb_0]; exact hD
        exact W.iret (v := 1) hx hb hr (fun t ht _ => ⟨⟨_, (), rfl, (by simp only [f7_read, f7_read_Z, if_neg c_1, if_neg c_2, if_neg c_3, hix_k]), ⟨by rw [ht]; exact hP9, by rw [hAe]; exact hD9⟩⟩, hS.F ht⟩) hS.2.2 dX7_read_77
      · refine lv_ldc hx hb hown (hW _ (wa tw631 rfl)) dX7_read_39 ?_
        have hb_0 : (f7_read_Z Z (nI k) al ac) = Z := (by simp only [f7_read, f7_read_Z, if_neg c_1, if_neg c_2, if_pos c_3, hix_k])
        have hP9 : va_P D vwCl ((wZ a C (f7_read_Z Z (nI k) al ac) Y)) s.heap := by rw [hb_0]; exact hP
        have hD9 : va_D A ((wZ a C (f7_read_Z Z (nI k) al ac) Y)) := by rw [hb_0]; exact hD
        exact W.iret (v := (-100002)) hx hb hr (fun t ht _ => ⟨⟨_, (), rfl, (by simp only [f7_read, f7_read_Z, if_neg c_1, if_neg c_2, if_pos c_3, hix_k]), ⟨by rw [ht]; exact hP9, by rw [hAe]; exact hD9⟩⟩, hS.F ht⟩) hS.2.2 dX7_read_41
  · refine lv_ldc hx hb hown (hW _ (wa tw641 rfl)) dX7_read_8 ?_
    have hb_0 : (f7_read_Z Z x al ac) = Z := (by simp only [f7_read, f7_read_Z, if_pos c_1])
    have hP9 : va_P D vwCl ((wZ a C (f7_read_Z Z x al ac) Y)) s.heap := by rw [hb_0]; exact hP
    have hD9 : va_D A ((wZ a C (f7_read_Z Z x al ac) Y)) := by rw [hb_0]; exact hD
    exact W.iret (v := (-100001)) hx hb hr (fun t ht _ => ⟨⟨_, (), rfl, (by simp only [f7_read, f7_read_Z, if_pos c_1]), ⟨by rw [ht]; exact hP9, by rw [hAe]; exact hD9⟩⟩, hS.F ht⟩) hS.2.2 dX7_read_10

def f7_lose (Z : Nat → Nat → Int32) (x : Int32) : Int32 := (if (f7_isMark Z x) = 0 then ((-100001)) else (if ((Z 2) (ix x)) = 0 then (1) else (0)))
def f7_lose_Z (Z : Nat → Nat → Int32) (x : Int32) : Nat → Nat → Int32 := (if (f7_isMark Z x) = 0 then (Z) else (uM (uM (uM Z 1 (upd (upd (Z 1) (2 * (ix x)) 0) ((2 * (ix x)) + 1) 0)) 2 (upd (Z 2) (ix x) 1)) 3 (upd (Z 3) (ix x) 0)))
set_option maxHeartbeats 4000000 in
set_option maxRecDepth 100000 in
theorem kX7_lose (l : Launch) (D : va_G) (C : Nat → ClassId) (a : Nat → Nat) (Z : Nat → Nat → Int32) (Y : Nat → Nat → Int64) (x : Int32) (sz : Nat) (N : Nat) (hN : Z 12 0 = nI N) (hN12 : N ≤ 12) : Wi l D C yX7_lose cX7_lose 3 .int 2 [.ref (a 0), .int x] (wZ a C Z Y) ((wZ a C (f7_lose_Z Z x) Y)) (f7_lose Z x) sz := by
  refine Met.ofW (cc := cX7_lose) (maxL := 3) (ret := (some .int)) (by decide) rfl ?_
  intro p e s m args below meth c s₁ B hml hv
  obtain ⟨rfl, hsz, hP, hK, hNw, hD0⟩ := hv
  have hx := B.exec
  have hb := B.bytes
  have hr := B.returns
  have hts := atoms_spec (ws := wm yX7_lose cX7_lose 3 (some .int)) B.pre
  have hown : s.vm.findClass RX7 = some m.cls := findClass_of_methodNamed B.named
  have hlocks := B.notSynchronized
  have hW : ∀ w ∈ WA, w.before _ s = true := fun w h => hts w (List.mem_cons_of_mem _ h)
  subst hsz
  have hD := hD0.self (sz := s.heap.size)
  generalize hAe : va_A (wZ a C Z Y) s.heap.size = A at hD ⊢
  have hA : ∀ q : Nat, s.heap.size ≤ q → A q := fun q h => by rw [← hAe]; exact Or.inr h
  have hS : va_S A s.heap s.heap [] := va_S.rf
  have hP : va_P D vwCl [((a 0), .inr (7, [.int (Z 12 0), .ref (a 1), .ref (a 2), .ref (a 3), .ref (a 4), .int (Z 12 1), .ref (a 5), .ref (a 6), .ref (a 7), .ref (a 8), .ref (a 9), .int (Z 12 2), .ref (a 10), .int (Z 12 3), .int (Z 12 4), .ref (a 11), .ref (a 12), .long (Y 5 0), .ref (a 13), .ref (a 14), .ref (a 15), .ref (a 16), .ref (a 17)])), ((a 1), eI C 48 (Z 0)), ((a 2), eI C 24 (Z 1)), ((a 3), eZ C 12 (Z 2)), ((a 4), eZ C 12 (Z 3)), ((a 5), eI C 60 (Z 4)), ((a 6), eI C 60 (Z 5)), ((a 7), eI C 60 (Z 6)), ((a 8), eZ C 60 (Z 7)), ((a 9), eZ C 244 (Z 8)), ((a 10), eI C 24 (Z 9)), ((a 11), eJ C 9 (Y 0)), ((a 12), eJ C 9 (Y 1)), ((a 13), eJ C 3 (Y 2)), ((a 14), eJ C 3 (Y 3)), ((a 15), eJ C 12 (Y 4)), ((a 16), eI C 6 (Z 10)), ((a 17), eI C 4 (Z 11))] s.heap := hP
  have hD : va_D A [((a 0), .inr (7, [.int (Z 12 0), .ref (a 1), .ref (a 2), .ref (a 3), .ref (a 4), .int (Z 12 1), .ref (a 5), .ref (a 6), .ref (a 7), .ref (a 8), .ref (a 9), .int (Z 12 2), .ref (a 10), .int (Z 12 3), .int (Z 12 4), .ref (a 11), .ref (a 12), .long (Y 5 0), .ref (a 13), .ref (a 14), .ref (a 15), .ref (a 16), .ref (a 17)])), ((a 1), eI C 48 (Z 0)), ((a 2), eI C 24 (Z 1)), ((a 3), eZ C 12 (Z 2)), ((a 4), eZ C 12 (Z 3)), ((a 5), eI C 60 (Z 4)), ((a 6), eI C 60 (Z 5)), ((a 7), eI C 60 (Z 6)), ((a 8), eZ C 60 (Z 7)), ((a 9), eZ C 244 (Z 8)), ((a 10), eI C 24 (Z 9)), ((a 11), eJ C 9 (Y 0)), ((a 12), eJ C 9 (Y 1)), ((a 13), eJ C 3 (Y 2)), ((a 14), eJ C 3 (Y 3)), ((a 15), eJ C 12 (Y 4)), ((a 16), eI C 6 (Z 10)), ((a 17), eI C 4 (Z 11))] := hD
  have hl := lv_entry ([.ref (a 0), .int x]) (n := 3) (Nat.le_of_ble_eq_true rfl)
  rw [lg_entry_eq]
  generalize (lg_sl ([.ref (a 0), .int x]) ++ List.replicate (3 - (lg_sl ([.ref (a 0), .int x])).length) Slot.unset).toArray = ls at hl ⊢
  have hl : lv_has ls 3 [(0, .ref (a 0)), (1, .int x)] := hl
  refine lv_aload_n hx hb dX7_lose_0 rfl (lv_at hl 0 rfl) ?_
  refine lv_iload_n hx hb dX7_lose_1 rfl (lv_at hl 1 rfl) ?_
  refine xri (r := f7_isMark Z x) (rV (As := [.int x]) (n := 1) (rest := []) ⟨hx, hb, hml, hown, hW⟩ (kX7_isMark l D C a Z Y x ) (wa tw640 rfl) (wa tw637 rfl) (wa tw639 rfl) (was ts37 rfl) (wa tw8 rfl) (by decide +kernel) ⟨Nat.le_of_ble_eq_true rfl, Nat.le_of_ble_eq_true rfl⟩ (pVr hP hK hNw 0 rfl rfl) hl.1 rfl (Nat.le_of_ble_eq_true rfl) dX7_lose_2 ⟨Nat.le_of_ble_eq_true rfl, Nat.le_of_ble_eq_true rfl⟩ rfl rfl rfl) ?_
  refine lv_if_ne (tgt := 11) hx hb dX7_lose_5 (by decide) (fun c_1 => ?_) (fun c_1 => ?_)
  · obtain ⟨k, hk, rfl⟩ := q_isMark hN hN12 c_1
    have hix_k : ix (nI k) = k := ix_nI (by omega)
    refine lv_aload_n hx hb dX7_lose_11 rfl (lv_at hl 0 rfl) ?_
    refine va_get (D := D) (ci := 7) (C := RX7) (T := TX7) (N := 23) hx hb hW inX7 hown hK hP 0 rfl rfl 3 (by decide) (hW _ (wa tw553 rfl)) (fun _ h9 => h9) rfl dX7_lose_12 ?_
    refine lv_iload_n hx hb dX7_lose_15 rfl (lv_at hl 1 rfl) ?_
    refine xzald hx hb hK hP 3 rfl k rfl (by omega) (by decide) dX7_lose_16 ?_
    refine lv_if_eq (tgt := 24) hx hb dX7_lose_17 (by decide) (fun c_2 => ?_) (fun c_2 => ?_)
    · refine lv_iconst (v := 1) hx hb dX7_lose_24 (by decide) ?_
      refine lv_istore_n (lv' := [(2, .int 1), (0, .ref (a 0)), (1, .int (nI k))]) hx hb dX7_lose_25 rfl hl (by decide) rfl (fun ls hl => ?_)
      refine lv_aload_n hx hb dX7_lose_26 rfl (lv_at hl 1 rfl) ?_
      refine va_get (D := D) (ci := 7) (C := RX7) (T := TX7) (N := 23) hx hb hW inX7 hown hK hP 0 rfl rfl 3 (by decide) (hW _ (wa tw553 rfl)) (fun _ h9 => h9) rfl dX7_lose_27 ?_
      refine lv_iload_n hx hb dX7_lose_30 rfl (lv_at hl 2 rfl) ?_
      refine lv_iconst (v := 1) hx hb dX7_lose_31 (by decide) ?_
      refine xzast hx hb hK hP hD hS 3 rfl k rfl (by omega) (by decide) (by decide) dX7_lose_32 (fun H locs hP hD hS => ?_)
      have hP : va_P D vwCl [((a 0), .inr (7, [.int (Z 12 0), .ref (a 1), .ref (a 2), .ref (a 3), .ref (a 4), .int (Z 12 1), .ref (a 5), .ref (a 6), .ref (a 7), .ref (a 8), .ref (a 9), .int (Z 12 2), .ref (a 10), .int (Z 12 3), .int (Z 12 4), .ref (a 11), .ref (a 12), .long (Y 5 0), .ref (a 13), .ref (a 14), .ref (a 15), .ref (a 16), .ref (a 17)])), ((a 1), eI C 48 (Z 0)), ((a 2), eI C 24 (Z 1)), ((a 3), eZ C 12 (upd (Z 2) k 1)), ((a 4), eZ C 12 (Z 3)), ((a 5), eI C 60 (Z 4)), ((a 6), eI C 60 (Z 5)), ((a 7), eI C 60 (Z 6)), ((a 8), eZ C 60 (Z 7)), ((a 9), eZ C 244 (Z 8)), ((a 10), eI C 24 (Z 9)), ((a 11), eJ C 9 (Y 0)), ((a 12), eJ C 9 (Y 1)), ((a 13), eJ C 3 (Y 2)), ((a 14), eJ C 3 (Y 3)), ((a 15), eJ C 12 (Y 4)), ((a 16), eI C 6 (Z 10)), ((a 17), eI C 4 (Z 11))] H := hP
      have hD : va_D A [((a 0), .inr (7, [.int (Z 12 0), .ref (a 1), .ref (a 2), .ref (a 3), .ref (a 4), .int (Z 12 1), .ref (a 5), .ref (a 6), .ref (a 7), .ref (a 8), .ref (a 9), .int (Z 12 2), .ref (a 10), .int (Z 12 3), .int (Z 12 4), .ref (a 11), .ref (a 12), .long (Y 5 0), .ref (a 13), .ref (a 14), .ref (a 15), .ref (a 16), .ref (a 17)])), ((a 1), eI C 48 (Z 0)), ((a 2), eI C 24 (Z 1)), ((a 3), eZ C 12 (upd (Z 2) k 1)), ((a 4), eZ C 12 (Z 3)), ((a 5), eI C 60 (Z 4)), ((a 6), eI C 60 (Z 5)), ((a 7), eI C 60 (Z 6)), ((a 8), eZ C 60 (Z 7)), ((a 9), eZ C 244 (Z 8)), ((a 10), eI C 24 (Z 9)), ((a 11), eJ C 9 (Y 0)), ((a 12), eJ C 9 (Y 1)), ((a 13), eJ C 3 (Y 2)), ((a 14), eJ C 3 (Y 3)), ((a 15), eJ C 12 (Y 4)), ((a 16), eI C 6 (Z 10)), ((a 17), eI C 4 (Z 11))] := hD
      refine lv_aload_n hx hb dX7_lose_33 rfl (lv_at hl 1 rfl) ?_
      refine va_get (D := D) (ci := 7) (C := RX7) (T := TX7) (N := 23) hx hb hW inX7 hown hK hP 0 rfl rfl 4 (by decide) (hW _ (wa tw554 rfl)) (fun _ h9 => h9) rfl dX7_lose_34 ?_
      refine lv_iload_n hx hb dX7_lose_37 rfl (lv_at hl 2 rfl) ?_
      refine lv_iconst (v := 0) hx hb dX7_lose_38 (by decide) ?_
      refine xzast hx hb hK hP hD hS 4 rfl k rfl (by omega) (by decide) (by decide) dX7_lose_39 (fun H locs hP hD hS => ?_)
      have hP : va_P D vwCl [((a 0), .inr (7, [.int (Z 12 0), .ref (a 1), .ref (a 2), .ref (a 3), .ref (a 4), .int (Z 12 1), .ref (a 5), .ref (a 6), .ref (a 7), .ref (a 8), .ref (a 9), .int (Z 12 2), .ref (a 10), .int (Z 12 3), .int (Z 12 4), .ref (a 11), .ref (a 12), .long (Y 5 0), .ref (a 13), .ref (a 14), .ref (a 15), .ref (a 16), .ref (a 17)])), ((a 1), eI C 48 (Z 0)), ((a 2), eI C 24 (Z 1)), ((a 3), eZ C 12 (upd (Z 2) k 1)), ((a 4), eZ C 12 (upd (Z 3) k 0)), ((a 5), eI C 60 (Z 4)), ((a 6), eI C 60 (Z 5)), ((a 7), eI C 60 (Z 6)), ((a 8), eZ C 60 (Z 7)), ((a 9), eZ C 244 (Z 8)), ((a 10), eI C 24 (Z 9)), ((a 11), eJ C 9 (Y 0)), ((a 12), eJ C 9 (Y 1)), ((a 13), eJ C 3 (Y 2)), ((a 14), eJ C 3 (Y 3)), ((a 15), eJ C 12 (Y 4)), ((a 16), eI C 6 (Z 10)), ((a 17), eI C 4 (Z 11))] H := hP
      have hD : va_D A [((a 0), .inr (7, [.int (Z 12 0), .ref (a 1), .ref (a 2), .ref (a 3), .ref (a 4), .int (Z 12 1), .ref (a 5), .ref (a 6), .ref (a 7), .ref (a 8), .ref (a 9), .int (Z 12 2), .ref (a 10), .int (Z 12 3), .int (Z 12 4), .ref (a 11), .ref (a 12), .long (Y 5 0), .ref (a 13), .ref (a 14), .ref (a 15), .ref (a 16), .ref (a 17)])), ((a 1), eI C 48 (Z 0)), ((a 2), eI C 24 (Z 1)), ((a 3), eZ C 12 (upd (Z 2) k 1)), ((a 4), eZ C 12 (upd (Z 3) k 0)), ((a 5), eI C 60 (Z 4)), ((a 6), eI C 60 (Z 5)), ((a 7), eI C 60 (Z 6)), ((a 8), eZ C 60 (Z 7)), ((a 9), eZ C 244 (Z 8)), ((a 10), eI C 24 (Z 9)), ((a 11), eJ C 9 (Y 0)), ((a 12), eJ C 9 (Y 1)), ((a 13), eJ C 3 (Y 2)), ((a 14), eJ C 3 (Y 3)), ((a 15), eJ C 12 (Y 4)), ((a 16), eI C 6 (Z 10)), ((a 17), eI C 4 (Z 11))] := hD
      refine lv_aload_n hx hb dX7_lose_40 rfl (lv_at hl 1 rfl) ?_
      refine va_get (D := D) (ci := 7) (C := RX7) (T := TX7) (N := 23) hx hb hW inX7 hown hK hP 0 rfl rfl 2 (by decide) (hW _ (wa tw552 rfl)) (fun _ h9 => h9) rfl dX7_lose_41 ?_
      refine lv_iconst (v := 2) hx hb dX7_lose_44 (by decide) ?_
      refine lv_iload_n hx hb dX7_lose_45 rfl (lv_at hl 2 rfl) ?_
      refine lv_imul hx hb dX7_lose_46 ?_
      refine lv_iconst (v := 0) hx hb dX7_lose_47 (by decide) ?_
      refine xiast hx hb hK hP hD hS 2 rfl (2 * k) (q_mul (nI_lit 2) rfl) (by omega) (by decide) dX7_lose_48 (fun H locs hP hD hS => ?_)
      have hP : va_P D vwCl [((a 0), .inr (7, [.int (Z 12 0), .ref (a 1), .ref (a 2), .ref (a 3), .ref (a 4), .int (Z 12 1), .ref (a 5), .ref (a 6), .ref (a 7), .ref (a 8), .ref (a 9), .int (Z 12 2), .ref (a 10), .int (Z 12 3), .int (Z 12 4), .ref (a 11), .ref (a 12), .long (Y 5 0), .ref (a 13), .ref (a 14), .ref (a 15), .ref (a 16), .ref (a 17)])), ((a 1), eI C 48 (Z 0)), ((a 2), eI C 24 (upd (Z 1) (2 * k) 0)), ((a 3), eZ C 12 (upd (Z 2) k 1)), ((a 4), eZ C 12 (upd (Z 3) k 0)), ((a 5), eI C 60 (Z 4)), ((a 6), eI C 60 (Z 5)), ((a 7), eI C 60 (Z 6)), ((a 8), eZ C 60 (Z 7)), ((a 9), eZ C 244 (Z 8)), ((a 10), eI C 24 (Z 9)), ((a 11), eJ C 9 (Y 0)), ((a 12), eJ C 9 (Y 1)), ((a 13), eJ C 3 (Y 2)), ((a 14), eJ C 3 (Y 3)), ((a 15), eJ C 12 (Y 4)), ((a 16), eI C 6 (Z 10)), ((a 17), eI C 4 (Z 11))] H := hP
      have hD : va_D A [((a 0), .inr (7, [.int (Z 12 0), .ref (a 1), .ref (a 2), .ref (a 3), .ref (a 4), .int (Z 12 1), .ref (a 5), .ref (a 6), .ref (a 7), .ref (a 8), .ref (a 9), .int (Z 12 2), .ref (a 10), .int (Z 12 3), .int (Z 12 4), .ref (a 11), .ref (a 12), .long (Y 5 0), .ref (a 13), .ref (a 14), .ref (a 15), .ref (a 16), .ref (a 17)])), ((a 1), eI C 48 (Z 0)), ((a 2), eI C 24 (upd (Z 1) (2 * k) 0)), ((a 3), eZ C 12 (upd (Z 2) k 1)), ((a 4), eZ C 12 (upd (Z 3) k 0)), ((a 5), eI C 60 (Z 4)), ((a 6), eI C 60 (Z 5)), ((a 7), eI C 60 (Z 6)), ((a 8), eZ C 60 (Z 7)), ((a 9), eZ C 244 (Z 8)), ((a 10), eI C 24 (Z 9)), ((a 11), eJ C 9 (Y 0)), ((a 12), eJ C 9 (Y 1)), ((a 13), eJ C 3 (Y 2)), ((a 14), eJ C 3 (Y 3)), ((a 15), eJ C 12 (Y 4)), ((a 16), eI C 6 (Z 10)), ((a 17), eI C 4 (Z 11))] := hD
      refine lv_aload_n hx hb dX7_lose_49 rfl (lv_at hl 1 rfl) ?_
      refine va_get (D := D) (ci := 7) (C := RX7) (T := TX7) (N := 23) hx hb hW inX7 hown hK hP 0 rfl rfl 2 (by decide) (hW _ (wa tw552 rfl)) (fun _ h9 => h9) rfl dX7_lose_50 ?_
      refine lv_iconst (v := 2) hx hb dX7_lose_53 (by decide) ?_
      refine lv_iload_n hx hb dX7_lose_54 rfl (lv_at hl 2 rfl) ?_
      refine lv_imul hx hb dX7_lose_55 ?_
      refine lv_iconst (v := 1) hx hb dX7_lose_56 (by decide) ?_
      refine lv_iadd hx hb dX7_lose_57 ?_
      refine lv_iconst (v := 0) hx hb dX7_lose_58 (by decide) ?_
      refine xiast hx hb hK hP hD hS 2 rfl ((2 * k) + 1) (q_add (q_mul (nI_lit 2) rfl) (nI_lit 1)) (by omega) (by decide) dX7_lose_59 (fun H locs hP hD hS => ?_)
      have hP : va_P D vwCl [((a 0), .inr (7, [.int (Z 12 0), .ref (a 1), .ref (a 2), .ref (a 3), .ref (a 4), .int (Z 12 1), .ref (a 5), .ref (a 6), .ref (a 7), .ref (a 8), .ref (a 9), .int (Z 12 2), .ref (a 10), .int (Z 12 3), .int (Z 12 4), .ref (a 11), .ref (a 12), .long (Y 5 0), .ref (a 13), .ref (a 14), .ref (a 15), .ref (a 16), .ref (a 17)])), ((a 1), eI C 48 (Z 0)), ((a 2), eI C 24 (upd (upd (Z 1) (2 * k) 0) ((2 * k) + 1) 0)), ((a 3), eZ C 12 (upd (Z 2) k 1)), ((a 4), eZ C 12 (upd (Z 3) k 0)), ((a 5), eI C 60 (Z 4)), ((a 6), eI C 60 (Z 5)), ((a 7), eI C 60 (Z 6)), ((a 8), eZ C 60 (Z 7)), ((a 9), eZ C 244 (Z 8)), ((a 10), eI C 24 (Z 9)), ((a 11), eJ C 9 (Y 0)), ((a 12), eJ C 9 (Y 1)), ((a 13), eJ C 3 (Y 2)), ((a 14), eJ C 3 (Y 3)), ((a 15), eJ C 12 (Y 4)), ((a 16), eI C 6 (Z 10)), ((a 17), eI C 4 (Z 11))] H := hP
      have hD : va_D A [((a 0), .inr (7, [.int (Z 12 0), .ref (a 1), .ref (a 2), .ref (a 3), .ref (a 4), .int (Z 12 1), .ref (a 5), .ref (a 6), .ref (a 7), .ref (a 8), .ref (a 9), .int (Z 12 2), .ref (a 10), .int (Z 12 3), .int (Z 12 4), .ref (a 11), .ref (a 12), .long (Y 5 0), .ref (a 13), .ref (a 14), .ref (a 15), .ref (a 16), .ref (a 17)])), ((a 1), eI C 48 (Z 0)), ((a 2), eI C 24 (upd (upd (Z 1) (2 * k) 0) ((2 * k) + 1) 0)), ((a 3), eZ C 12 (upd (Z 2) k 1)), ((a 4), eZ C 12 (upd (Z 3) k 0)), ((a 5), eI C 60 (Z 4)), ((a 6), eI C 60 (Z 5)), ((a 7), eI C 60 (Z 6)), ((a 8), eZ C 60 (Z 7)), ((a 9), eZ C 244 (Z 8)), ((a 10), eI C 24 (Z 9)), ((a 11), eJ C 9 (Y 0)), ((a 12), eJ C 9 (Y 1)), ((a 13), eJ C 3 (Y 2)), ((a 14), eJ C 3 (Y 3)), ((a 15), eJ C 12 (Y 4)), ((a 16), eI C 6 (Z 10)), ((a 17), eI C 4 (Z 11))] := hD
      refine lv_iload_n hx hb dX7_lose_60 rfl (lv_at hl 0 rfl) ?_
      have hb_0 : (f7_lose_Z Z (nI k)) = uM (uM (uM Z 1 (upd (upd (Z 1) (2 * k) 0) ((2 * k) + 1) 0)) 2 (upd (Z 2) k 1)) 3 (upd (Z 3) k 0) := (by simp only [f7_lose, f7_lose_Z, if_neg c_1, if_pos c_2, hix_k])
      have hP9 : va_P D vwCl ((wZ a C (f7_lose_Z Z (nI k)) Y)) H := by rw [hb_0]; exact hP
      have hD9 : va_D A ((wZ a C (f7_lose_Z Z (nI k)) Y)) := by rw [hb_0]; exact hD
      exact W.iret (v := 1) hx hb hr (fun t ht _ => ⟨⟨_, (), rfl, (by simp only [f7_lose, f7_lose_Z, if_neg c_1, if_pos c_2, hix_k]), ⟨by rw [ht]; exact hP9, by rw [hAe]; exact hD9⟩⟩, hS.F ht⟩) hS.2.2 dX7_lose_61
    · refine lv_iconst (v := 0) hx hb dX7_lose_20 (by decide) ?_
      refine lv_goto (tgt := 25) hx hb dX7_lose_21 (by decide) ?_
      refine lv_istore_n (lv' := [(2, .int 0), (0, .ref (a 0)), (1, .int (nI k))]) hx hb dX7_lose_25 rfl hl (by decide) rfl (fun ls hl => ?_)
      refine lv_aload_n hx hb dX7_lose_26 rfl (lv_at hl 1 rfl) ?_
      refine va_get (D := D) (ci := 7) (C := RX7) (T := TX7) (N := 23) hx hb hW inX7 hown hK hP 0 rfl rfl 3 (by decide) (hW _ (wa tw553 rfl)) (fun _ h9 => h9) rfl dX7_lose_27 ?_
      refine lv_iload_n hx hb dX7_lose_30 rfl (lv_at hl 2 rfl) ?_
      refine lv_iconst (v := 1) hx hb dX7_lose_31 (by decide) ?_
      refine xzast hx hb hK hP hD hS 3 rfl k rfl (by omega) (by decide) (by decide) dX7_lose_32 (fun H locs hP hD hS => ?_)
      have hP : va_P D vwCl [((a 0), .inr (7, [.int (Z 12 0), .ref (a 1), .ref (a 2), .ref (a 3), .ref (a 4), .int (Z 12 1), .ref (a 5), .ref (a 6), .ref (a 7), .ref (a 8), .ref (a 9), .int (Z 12 2), .ref (a 10), .int (Z 12 3), .int (Z 12 4), .ref (a 11), .ref (a 12), .long (Y 5 0), .ref (a 13), .ref (a 14), .ref (a 15), .ref (a 16), .ref (a 17)])), ((a 1), eI C 48 (Z 0)), ((a 2), eI C 24 (Z 1)), ((a 3), eZ C 12 (upd (Z 2) k 1)), ((a 4), eZ C 12 (Z 3)), ((a 5), eI C 60 (Z 4)), ((a 6), eI C 60 (Z 5)), ((a 7), eI C 60 (Z 6)), ((a 8), eZ C 60 (Z 7)), ((a 9), eZ C 244 (Z 8)), ((a 10), eI C 24 (Z 9)), ((a 11), eJ C 9 (Y 0)), ((a 12), eJ C 9 (Y 1)), ((a 13), eJ C 3 (Y 2)), ((a 14), eJ C 3 (Y 3)), ((a 15), eJ C 12 (Y 4)), ((a 16), eI C 6 (Z 10)), ((a 17), eI C 4 (Z 11))] H := hP
      have hD : va_D A [((a 0), .inr (7, [.int (Z 12 0), .ref (a 1), .ref (a 2), .ref (a 3), .ref (a 4), .int (Z 12 1), .ref (a 5), .ref (a 6), .ref (a 7), .ref (a 8), .ref (a 9), .int (Z 12 2), .ref (a 10), .int (Z 12 3), .int (Z 12 4), .ref (a 11), .ref (a 12), .long (Y 5 0), .ref (a 13), .ref (a 14), .ref (a 15), .ref (a 16), .ref (a 17)])), ((a 1), eI C 48 (Z 0)), ((a 2), eI C 24 (Z 1)), ((a 3), eZ C 12 (upd (Z 2) k 1)), ((a 4), eZ C 12 (Z 3)), ((a 5), eI C 60 (Z 4)), ((a 6), eI C 60 (Z 5)), ((a 7), eI C 60 (Z 6)), ((a 8), eZ C 60 (Z 7)), ((a 9), eZ C 244 (Z 8)), ((a 10), eI C 24 (Z 9)), ((a 11), eJ C 9 (Y 0)), ((a 12), eJ C 9 (Y 1)), ((a 13), eJ C 3 (Y 2)), ((a 14), eJ C 3 (Y 3)), ((a 15), eJ C 12 (Y 4)), ((a 16), eI C 6 (Z 10)), ((a 17), eI C 4 (Z 11))] := hD
      refine lv_aload_n hx hb dX7_lose_33 rfl (lv_at hl 1 rfl) ?_
      refine va_get (D := D) (ci := 7) (C := RX7) (T := TX7) (N := 23) hx hb hW inX7 hown hK hP 0 rfl rfl 4 (by decide) (hW _ (wa tw554 rfl)) (fun _ h9 => h9) rfl dX7_lose_34 ?_
      refine lv_iload_n hx hb dX7_lose_37 rfl (lv_at hl 2 rfl) ?_
      refine lv_iconst (v := 0) hx hb dX7_lose_38 (by decide) ?_
      refine xzast hx hb hK hP hD hS 4 rfl k rfl (by omega) (by decide) (by decide) dX7_lose_39 (fun H locs hP hD hS => ?_)
      have hP : va_P D vwCl [((a 0), .inr (7, [.int (Z 12 0), .ref (a 1), .ref (a 2), .ref (a 3), .ref (a 4), .int (Z 12 1), .ref (a 5), .ref (a 6), .ref (a 7), .ref (a 8), .ref (a 9), .int (Z 12 2), .ref (a 10), .int (Z 12 3), .int (Z 12 4), .ref (a 11), .ref (a 12), .long (Y 5 0), .ref (a 13), .ref (a 14), .ref (a 15), .ref (a 16), .ref (a 17)])), ((a 1), eI C 48 (Z 0)), ((a 2), eI C 24 (Z 1)), ((a 3), eZ C 12 (upd (Z 2) k 1)), ((a 4), eZ C 12 (upd (Z 3) k 0)), ((a 5), eI C 60 (Z 4)), ((a 6), eI C 60 (Z 5)), ((a 7), eI C 60 (Z 6)), ((a 8), eZ C 60 (Z 7)), ((a 9), eZ C 244 (Z 8)), ((a 10), eI C 24 (Z 9)), ((a 11), eJ C 9 (Y 0)), ((a 12), eJ C 9 (Y 1)), ((a 13), eJ C 3 (Y 2)), ((a 14), eJ C 3 (Y 3)), ((a 15), eJ C 12 (Y 4)), ((a 16), eI C 6 (Z 10)), ((a 17), eI C 4 (Z 11))] H := hP
      have hD : va_D A [((a 0), .inr (7, [.int (Z 12 0), .ref (a 1), .ref (a 2), .ref (a 3), .ref (a 4), .int (Z 12 1), .ref (a 5), .ref (a 6), .ref (a 7), .ref (a 8), .ref (a 9), .int (Z 12 2), .ref (a 10), .int (Z 12 3), .int (Z 12 4), .ref (a 11), .ref (a 12), .long (Y 5 0), .ref (a 13), .ref (a 14), .ref (a 15), .ref (a 16), .ref (a 17)])), ((a 1), eI C 48 (Z 0)), ((a 2), eI C 24 (Z 1)), ((a 3), eZ C 12 (upd (Z 2) k 1)), ((a 4), eZ C 12 (upd (Z 3) k 0)), ((a 5), eI C 60 (Z 4)), ((a 6), eI C 60 (Z 5)), ((a 7), eI C 60 (Z 6)), ((a 8), eZ C 60 (Z 7)), ((a 9), eZ C 244 (Z 8)), ((a 10), eI C 24 (Z 9)), ((a 11), eJ C 9 (Y 0)), ((a 12), eJ C 9 (Y 1)), ((a 13), eJ C 3 (Y 2)), ((a 14), eJ C 3 (Y 3)), ((a 15), eJ C 12 (Y 4)), ((a 16), eI C 6 (Z 10)), ((a 17), eI C 4 (Z 11))] := hD
      refine lv_aload_n hx hb dX7_lose_40 rfl (lv_at hl 1 rfl) ?_
      refine va_get (D := D) (ci := 7) (C := RX7) (T := TX7) (N := 23) hx hb hW inX7 hown hK hP 0 rfl rfl 2 (by decide) (hW _ (wa tw552 rfl)) (fun _ h9 => h9) rfl dX7_lose_41 ?_
      refine lv_iconst (v := 2) hx hb dX7_lose_44 (by decide) ?_
      refine lv_iload_n hx hb dX7_lose_45 rfl (lv_at hl 2 rfl) ?_
      refine lv_imul hx hb dX7_lose_46 ?_
      refine lv_iconst (v := 0) hx hb dX7_lose_47 (by decide) ?_
      refine xiast hx hb hK hP hD hS 2 rfl (2 * k) (q_mul (nI_lit 2) rfl) (by omega) (by decide) dX7_lose_48 (fun H locs hP hD hS => ?_)
      have hP : va_P D vwCl [((a 0), .inr (7, [.int (Z 12 0), .ref (a 1), .ref (a 2), .ref (a 3), .ref (a 4), .int (Z 12 1), .ref (a 5), .ref (a 6), .ref (a 7), .ref (a 8), .ref (a 9), .int (Z 12 2), .ref (a 10), .int (Z 12 3), .int (Z 12 4), .ref (a 11), .ref (a 12), .long (Y 5 0), .ref (a 13), .ref (a 14), .ref (a 15), .ref (a 16), .ref (a 17)])), ((a 1), eI C 48 (Z 0)), ((a 2), eI C 24 (upd (Z 1) (2 * k) 0)), ((a 3), eZ C 12 (upd (Z 2) k 1)), ((a 4), eZ C 12 (upd (Z 3) k 0)), ((a 5), eI C 60 (Z 4)), ((a 6), eI C 60 (Z 5)), ((a 7), eI C 60 (Z 6)), ((a 8), eZ C 60 (Z 7)), ((a 9), eZ C 244 (Z 8)), ((a 10), eI C 24 (Z 9)), ((a 11), eJ C 9 (Y 0)), ((a 12), eJ C 9 (Y 1)), ((a 13), eJ C 3 (Y 2)), ((a 14), eJ C 3 (Y 3)), ((a 15), eJ C 12 (Y 4)), ((a 16), eI C 6 (Z 10)), ((a 17), eI C 4 (Z 11))] H := hP
      have hD : va_D A [((a 0), .inr (7, [.int (Z 12 0), .ref (a 1), .ref (a 2), .ref (a 3), .ref (a 4), .int (Z 12 1), .ref (a 5), .ref (a 6), .ref (a 7), .ref (a 8), .ref (a 9), .int (Z 12 2), .ref (a 10), .int (Z 12 3), .int (Z 12 4), .ref (a 11), .ref (a 12), .long (Y 5 0), .ref (a 13), .ref (a 14), .ref (a 15), .ref (a 16), .ref (a 17)])), ((a 1), eI C 48 (Z 0)), ((a 2), eI C 24 (upd (Z 1) (2 * k) 0)), ((a 3), eZ C 12 (upd (Z 2) k 1)), ((a 4), eZ C 12 (upd (Z 3) k 0)), ((a 5), eI C 60 (Z 4)), ((a 6), eI C 60 (Z 5)), ((a 7), eI C 60 (Z 6)), ((a 8), eZ C 60 (Z 7)), ((a 9), eZ C 244 (Z 8)), ((a 10), eI C 24 (Z 9)), ((a 11), eJ C 9 (Y 0)), ((a 12), eJ C 9 (Y 1)), ((a 13), eJ C 3 (Y 2)), ((a 14), eJ C 3 (Y 3)), ((a 15), eJ C 12 (Y 4)), ((a 16), eI C 6 (Z 10)), ((a 17), eI C 4 (Z 11))] := hD
      refine lv_aload_n hx hb dX7_lose_49 rfl (lv_at hl 1 rfl) ?_
      refine va_get (D := D) (ci := 7) (C := RX7) (T := TX7) (N := 23) hx hb hW inX7 hown hK hP 0 rfl rfl 2 (by decide) (hW _ (wa tw552 rfl)) (fun _ h9 => h9) rfl dX7_lose_50 ?_
      refine lv_iconst (v := 2) hx hb dX7_lose_53 (by decide) ?_
      refine lv_iload_n hx hb dX7_lose_54 rfl (lv_at hl 2 rfl) ?_
      refine lv_imul hx hb dX7_lose_55 ?_
      refine lv_iconst (v := 1) hx hb dX7_lose_56 (by decide) ?_
      refine lv_iadd hx hb dX7_lose_57 ?_
      refine lv_iconst (v := 0) hx hb dX7_lose_58 (by decide) ?_
      refine xiast hx hb hK hP hD hS 2 rfl ((2 * k) + 1) (q_add (q_mul (nI_lit 2) rfl) (nI_lit 1)) (by omega) (by decide) dX7_lose_59 (fun H locs hP hD hS => ?_)
      have hP : va_P D vwCl [((a 0), .inr (7, [.int (Z 12 0), .ref (a 1), .ref (a 2), .ref (a 3), .ref (a 4), .int (Z 12 1), .ref (a 5), .ref (a 6), .ref (a 7), .ref (a 8), .ref (a 9), .int (Z 12 2), .ref (a 10), .int (Z 12 3), .int (Z 12 4), .ref (a 11), .ref (a 12), .long (Y 5 0), .ref (a 13), .ref (a 14), .ref (a 15), .ref (a 16), .ref (a 17)])), ((a 1), eI C 48 (Z 0)), ((a 2), eI C 24 (upd (upd (Z 1) (2 * k) 0) ((2 * k) + 1) 0)), ((a 3), eZ C 12 (upd (Z 2) k 1)), ((a 4), eZ C 12 (upd (Z 3) k 0)), ((a 5), eI C 60 (Z 4)), ((a 6), eI C 60 (Z 5)), ((a 7), eI C 60 (Z 6)), ((a 8), eZ C 60 (Z 7)), ((a 9), eZ C 244 (Z 8)), ((a 10), eI C 24 (Z 9)), ((a 11), eJ C 9 (Y 0)), ((a 12), eJ C 9 (Y 1)), ((a 13), eJ C 3 (Y 2)), ((a 14), eJ C 3 (Y 3)), ((a 15), eJ C 12 (Y 4)), ((a 16), eI C 6 (Z 10)), ((a 17), eI C 4 (Z 11))] H := hP
      have hD : va_D A [((a 0), .inr (7, [.int (Z 12 0), .ref (a 1), .ref (a 2), .ref (a 3), .ref (a 4), .int (Z 12 1), .ref (a 5), .ref (a 6), .ref (a 7), .ref (a 8), .ref (a 9), .int (Z 12 2), .ref (a 10), .int (Z 12 3), .int (Z 12 4), .ref (a 11), .ref (a 12), .long (Y 5 0), .ref (a 13), .ref (a 14), .ref (a 15), .ref (a 16), .ref (a 17)])), ((a 1), eI C 48 (Z 0)), ((a 2), eI C 24 (upd (upd (Z 1) (2 * k) 0) ((2 * k) + 1) 0)), ((a 3), eZ C 12 (upd (Z 2) k 1)), ((a 4), eZ C 12 (upd (Z 3) k 0)), ((a 5), eI C 60 (Z 4)), ((a 6), eI C 60 (Z 5)), ((a 7), eI C 60 (Z 6)), ((a 8), eZ C 60 (Z 7)), ((a 9), eZ C 244 (Z 8)), ((a 10), eI C 24 (Z 9)), ((a 11), eJ C 9 (Y 0)), ((a 12), eJ C 9 (Y 1)), ((a 13), eJ C 3 (Y 2)), ((a 14), eJ C 3 (Y 3)), ((a 15), eJ C 12 (Y 4)), ((a 16), eI C 6 (Z 10)), ((a 17), eI C 4 (Z 11))] := hD
      refine lv_iload_n hx hb dX7_lose_60 rfl (lv_at hl 0 rfl) ?_
      have hb_0 : (f7_lose_Z Z (nI k)) = uM (uM (uM Z 1 (upd (upd (Z 1) (2 * k) 0) ((2 * k) + 1) 0)) 2 (upd (Z 2) k 1)) 3 (upd (Z 3) k 0) := (by simp only [f7_lose, f7_lose_Z, if_neg c_1, if_neg c_2, hix_k])
      have hP9 : va_P D vwCl ((wZ a C (f7_lose_Z Z (nI k)) Y)) H := by rw [hb_0]; exact hP
      have hD9 : va_D A ((wZ a C (f7_lose_Z Z (nI k)) Y)) := by rw [hb_0]; exact hD
      exact W.iret (v := 0) hx hb hr (fun t ht _ => ⟨⟨_, (), rfl, (by simp only [f7_lose, f7_lose_Z, if_neg c_1, if_neg c_2, hix_k]), ⟨by rw [ht]; exact hP9, by rw [hAe]; exact hD9⟩⟩, hS.F ht⟩) hS.2.2 dX7_lose_61
  · refine lv_ldc hx hb hown (hW _ (wa tw641 rfl)) dX7_lose_8 ?_
    have hb_0 : (f7_lose_Z Z x) = Z := (by simp only [f7_lose, f7_lose_Z, if_pos c_1])
    have hP9 : va_P D vwCl ((wZ a C (f7_lose_Z Z x) Y)) s.heap := by rw [hb_0]; exact hP
    have hD9 : va_D A ((wZ a C (f7_lose_Z Z x) Y)) := by rw [hb_0]; exact hD
    exact W.iret (v := (-100001)) hx hb hr (fun t ht _ => ⟨⟨_, (), rfl, (by simp only [f7_lose, f7_lose_Z, if_pos c_1]), ⟨by rw [ht]; exact hP9, by rw [hAe]; exact hD9⟩⟩, hS.F ht⟩) hS.2.2 dX7_lose_10

def f7_told (Z : Nat → Nat → Int32) (x what : Int32) : Int32 := (if (f7_isMark Z x) = 0 then ((-100001)) else (if (f7_in what.toInt64 0 7) = 0 then ((-100002)) else (if 4 ≤ what then (if 6 ≤ what then (if what = 6 then (if ((Z 2) (ix x)) = 0 then (0) else (1)) else (if ((Z 3) (ix x)) = 0 then (0) else (1))) else ((Z 1) (((2 * (ix x)) + (ix what)) - 4))) else ((Z 0) ((4 * (ix x)) + (ix what))))))
set_option maxHeartbeats 4000000 in
set_option maxRecDepth 100000 in
theorem kX7_told (l : Launch) (D : va_G) (C : Nat → ClassId) (a : Nat → Nat) (Z : Nat → Nat → Int32) (Y : Nat → Nat → Int64) (x what : Int32) (N : Nat) (hN : Z 12 0 = nI N) (hN12 : N ≤ 12) : Ri l D C yX7_told cX7_told 3 .int 2 [.ref (a 0), .int x, .int what] (wZ a C Z Y) (f7_told Z x what) := by
  refine Met.ofW (cc := cX7_told) (maxL := 3) (ret := (some .int)) (by decide) rfl ?_
  intro p e s m args below meth c s₁ B hml hv
  obtain ⟨rfl, hP, hK, hNw⟩ := hv
  have hx := B.exec
  have hb := B.bytes
  have hr := B.returns
  have hts := atoms_spec (ws := wm yX7_told cX7_told 3 (some .int)) B.pre
  have hown : s.vm.findClass RX7 = some m.cls := findClass_of_methodNamed B.named
  have hlocks := B.notSynchronized
  have hW : ∀ w ∈ WA, w.before _ s = true := fun w h => hts w (List.mem_cons_of_mem _ h)
  have hP : va_P D vwCl [((a 0), .inr (7, [.int (Z 12 0), .ref (a 1), .ref (a 2), .ref (a 3), .ref (a 4), .int (Z 12 1), .ref (a 5), .ref (a 6), .ref (a 7), .ref (a 8), .ref (a 9), .int (Z 12 2), .ref (a 10), .int (Z 12 3), .int (Z 12 4), .ref (a 11), .ref (a 12), .long (Y 5 0), .ref (a 13), .ref (a 14), .ref (a 15), .ref (a 16), .ref (a 17)])), ((a 1), eI C 48 (Z 0)), ((a 2), eI C 24 (Z 1)), ((a 3), eZ C 12 (Z 2)), ((a 4), eZ C 12 (Z 3)), ((a 5), eI C 60 (Z 4)), ((a 6), eI C 60 (Z 5)), ((a 7), eI C 60 (Z 6)), ((a 8), eZ C 60 (Z 7)), ((a 9), eZ C 244 (Z 8)), ((a 10), eI C 24 (Z 9)), ((a 11), eJ C 9 (Y 0)), ((a 12), eJ C 9 (Y 1)), ((a 13), eJ C 3 (Y 2)), ((a 14), eJ C 3 (Y 3)), ((a 15), eJ C 12 (Y 4)), ((a 16), eI C 6 (Z 10)), ((a 17), eI C 4 (Z 11))] s.heap := hP
  have hl := lv_entry ([.ref (a 0), .int x, .int what]) (n := 3) (Nat.le_of_ble_eq_true rfl)
  rw [lg_entry_eq]
  generalize (lg_sl ([.ref (a 0), .int x, .int what]) ++ List.replicate (3 - (lg_sl ([.ref (a 0), .int x, .int what])).length) Slot.unset).toArray = ls at hl ⊢
  have hl : lv_has ls 3 [(0, .ref (a 0)), (1, .int x), (2, .int what)] := hl
  refine lv_aload_n hx hb dX7_told_0 rfl (lv_at hl 0 rfl) ?_
  refine lv_iload_n hx hb dX7_told_1 rfl (lv_at hl 1 rfl) ?_
  refine xri (r := f7_isMark Z x) (rV (As := [.int x]) (n := 1) (rest := []) ⟨hx, hb, hml, hown, hW⟩ (kX7_isMark l D C a Z Y x ) (wa tw640 rfl) (wa tw637 rfl) (wa tw639 rfl) (was ts37 rfl) (wa tw8 rfl) (by decide +kernel) ⟨Nat.le_of_ble_eq_true rfl, Nat.le_of_ble_eq_true rfl⟩ (pVr hP hK hNw 0 rfl rfl) hl.1 rfl (Nat.le_of_ble_eq_true rfl) dX7_told_2 ⟨Nat.le_of_ble_eq_true rfl, Nat.le_of_ble_eq_true rfl⟩ rfl rfl rfl) ?_
  refine lv_if_ne (tgt := 11) hx hb dX7_told_5 (by decide) (fun c_1 => ?_) (fun c_1 => ?_)
  · obtain ⟨k, hk, rfl⟩ := q_isMark hN hN12 c_1
    have hix_k : ix (nI k) = k := ix_nI (by omega)
    refine lv_iload_n hx hb dX7_told_11 rfl (lv_at hl 2 rfl) ?_
    refine lv_i2l (v := what.toInt64) hx hb dX7_told_12 rfl ?_
    refine lv_lconst (v := 0) hx hb dX7_told_13 (by decide) ?_
    refine lv_ldc2 hx hb hown (hW _ (wa tw652 rfl)) dX7_told_14 ?_
    refine xri (r := f7_in what.toInt64 0 7) (rS (As := [.long what.toInt64, .long 0, .long 7]) (n := 3) (rest := []) ⟨hx, hb, hml, hown, hW⟩ (kX7_in l what.toInt64 0 7) (wa tw628 rfl) (wa tw626 rfl) (wa tw627 rfl) (wa tw8 rfl) (by decide +kernel) ⟨Nat.le_of_ble_eq_true rfl, Nat.le_of_ble_eq_true rfl⟩ pS0 hl.1 rfl (Nat.le_of_ble_eq_true rfl) dX7_told_17 ⟨Nat.le_of_ble_eq_true rfl, Nat.le_of_ble_eq_true rfl⟩ rfl rfl rfl) ?_
    refine lv_if_ne (tgt := 26) hx hb dX7_told_20 (by decide) (fun c_2 => ?_) (fun c_2 => ?_)
    · obtain ⟨w, hw, rfl⟩ := q_inC (n := 8) rfl (by decide) c_2
      have hix_w : ix (nI w) = w := ix_nI (by omega)
      refine lv_iload_n hx hb dX7_told_26 rfl (lv_at hl 2 rfl) ?_
      refine lv_iconst (v := 4) hx hb dX7_told_27 (by decide) ?_
      refine lv_icmp_ge (tgt := 44) hx hb dX7_told_28 (by decide) (fun c_3 => ?_) (fun c_3 => ?_)
      · have hw4 : 4 ≤ w := by rcases Nat.lt_or_ge w 4 with q | q; exact absurd c_3 (q_nle (nI_lit 4) rfl q (by omega)); exact q
        refine lv_iload_n hx hb dX7_told_44 rfl (lv_at hl 2 rfl) ?_
        refine lv_bipush (v := 6) hx hb dX7_told_45 (by decide) ?_
        refine lv_icmp_ge (tgt := 65) hx hb dX7_told_47 (by decide) (fun c_4 => ?_) (fun c_4 => ?_)
        · refine lv_iload_n hx hb dX7_told_65 rfl (lv_at hl 2 rfl) ?_
          refine lv_bipush (v := 6) hx hb dX7_told_66 (by decide) ?_
          refine lv_icmp_ne (tgt := 83) hx hb dX7_told_68 (by decide) (fun c_5 => ?_) (fun c_5 => ?_)
          · refine lv_aload_n hx hb dX7_told_83 rfl (lv_at hl 0 rfl) ?_
            refine va_get (D := D) (ci := 7) (C := RX7) (T := TX7) (N := 23) hx hb hW inX7 hown hK hP 0 rfl rfl 4 (by decide) (hW _ (wa tw554 rfl)) (fun _ h9 => h9) rfl dX7_told_84 ?_
            refine lv_iload_n hx hb dX7_told_87 rfl (lv_at hl 1 rfl) ?_
            refine xzald hx hb hK hP 4 rfl k rfl (by omega) (by decide) dX7_told_88 ?_
            refine lv_if_eq (tgt := 96) hx hb dX7_told_89 (by decide) (fun c_6 => ?_) (fun c_6 => ?_)
            · refine lv_iconst (v := 0) hx hb dX7_told_96 (by decide) ?_
              exact W.iret (v := 0) hx hb hr (fun t ht _ => ⟨_, rfl, (by simp only [f7_told, if_neg c_1, if_neg c_2, if_pos c_3, if_pos c_4, if_neg c_5, if_pos c_6, hix_k, hix_w]), ht⟩) (fun q h => by cases h) dX7_told_97
            · refine lv_iconst (v := 1) hx hb dX7_told_92 (by decide) ?_
              refine lv_goto (tgt := 97) hx hb dX7_told_93 (by decide) ?_
              exact W.iret (v := 1) hx hb hr (fun t ht _ => ⟨_, rfl, (by simp only [f7_told, if_neg c_1, if_neg c_2, if_pos c_3, if_pos c_4, if_neg c_5, if_neg c_6, hix_k, hix_w]), ht⟩) (fun q h => by cases h) dX7_told_97
          · refine lv_aload_n hx hb dX7_told_71 rfl (lv_at hl 0 rfl) ?_
            refine va_get (D := D) (ci := 7) (C := RX7) (T := TX7) (N := 23) hx hb hW inX7 hown hK hP 0 rfl rfl 3 (by decide) (hW _ (wa tw553 rfl)) (fun _ h9 => h9) rfl dX7_told_72 ?_
            refine lv_iload_n hx hb dX7_told_75 rfl (lv_at hl 1 rfl) ?_
            refine xzald hx hb hK hP 3 rfl k rfl (by omega) (by decide) dX7_told_76 ?_
            refine lv_if_eq (tgt := 96) hx hb dX7_told_77 (by decide) (fun c_7 => ?_) (fun c_7 => ?_)
            · refine lv_iconst (v := 0) hx hb dX7_told_96 (by decide) ?_
              exact W.iret (v := 0) hx hb hr (fun t ht _ => ⟨_, rfl, (by simp only [f7_told, if_neg c_1, if_neg c_2, if_pos c_3, if_pos c_4, if_pos c_5, if_pos c_7, hix_k, hix_w]), ht⟩) (fun q h => by cases h) dX7_told_97
            · refine lv_goto (tgt := 92) hx hb dX7_told_80 (by decide) ?_
              refine lv_iconst (v := 1) hx hb dX7_told_92 (by decide) ?_
              refine lv_goto (tgt := 97) hx hb dX7_told_93 (by decide) ?_
              exact W.iret (v := 1) hx hb hr (fun t ht _ => ⟨_, rfl, (by simp only [f7_told, if_neg c_1, if_neg c_2, if_pos c_3, if_pos c_4, if_pos c_5, if_neg c_7, hix_k, hix_w]), ht⟩) (fun q h => by cases h) dX7_told_97
        · have hw6 : w < 6 := by have := c_4; exact Nat.lt_of_not_le (fun q => this (q_le (nI_lit 6) rfl q (by omega)))
          refine lv_aload_n hx hb dX7_told_50 rfl (lv_at hl 0 rfl) ?_
          refine va_get (D := D) (ci := 7) (C := RX7) (T := TX7) (N := 23) hx hb hW inX7 hown hK hP 0 rfl rfl 2 (by decide) (hW _ (wa tw552 rfl)) (fun _ h9 => h9) rfl dX7_told_51 ?_
          refine lv_iconst (v := 2) hx hb dX7_told_54 (by decide) ?_
          refine lv_iload_n hx hb dX7_told_55 rfl (lv_at hl 1 rfl) ?_
          refine lv_imul hx hb dX7_told_56 ?_
          refine lv_iload_n hx hb dX7_told_57 rfl (lv_at hl 2 rfl) ?_
          refine lv_iadd hx hb dX7_told_58 ?_
          refine lv_iconst (v := 4) hx hb dX7_told_59 (by decide) ?_
          refine lv_isub hx hb dX7_told_60 ?_
          refine xiald hx hb hK hP 2 rfl (((2 * k) + w) - 4) (q_sub (q_add (q_mul (nI_lit 2) rfl) rfl) (nI_lit 4) (by omega)) (by omega) (by decide) dX7_told_61 ?_
          refine lv_goto (tgt := 97) hx hb dX7_told_62 (by decide) ?_
          exact W.iret (v := (Z 1) (((2 * k) + w) - 4)) hx hb hr (fun t ht _ => ⟨_, rfl, (by simp only [f7_told, if_neg c_1, if_neg c_2, if_pos c_3, if_neg c_4, hix_k, hix_w]), ht⟩) (fun q h => by cases h) dX7_told_97
      · have hw4 : w < 4 := by have := c_3; exact Nat.lt_of_not_le (fun q => this (q_le (nI_lit 4) rfl q (by omega)))
        refine lv_aload_n hx hb dX7_told_31 rfl (lv_at hl 0 rfl) ?_
        refine va_get (D := D) (ci := 7) (C := RX7) (T := TX7) (N := 23) hx hb hW inX7 hown hK hP 0 rfl rfl 1 (by decide) (hW _ (wa tw551 rfl)) (fun _ h9 => h9) rfl dX7_told_32 ?_
        refine lv_iconst (v := 4) hx hb dX7_told_35 (by decide) ?_
        refine lv_iload_n hx hb dX7_told_36 rfl (lv_at hl 1 rfl) ?_
        refine lv_imul hx hb dX7_told_37 ?_
        refine lv_iload_n hx hb dX7_told_38 rfl (lv_at hl 2 rfl) ?_
        refine lv_iadd hx hb dX7_told_39 ?_
        refine xiald hx hb hK hP 1 rfl ((4 * k) + w) (q_add (q_mul (nI_lit 4) rfl) rfl) (by omega) (by decide) dX7_told_40 ?_
        refine lv_goto (tgt := 97) hx hb dX7_told_41 (by decide) ?_
        exact W.iret (v := (Z 0) ((4 * k) + w)) hx hb hr (fun t ht _ => ⟨_, rfl, (by simp only [f7_told, if_neg c_1, if_neg c_2, if_neg c_3, hix_k, hix_w]), ht⟩) (fun q h => by cases h) dX7_told_97
    · refine lv_ldc hx hb hown (hW _ (wa tw631 rfl)) dX7_told_23 ?_
      exact W.iret (v := (-100002)) hx hb hr (fun t ht _ => ⟨_, rfl, (by simp only [f7_told, if_neg c_1, if_pos c_2, hix_k]), ht⟩) (fun q h => by cases h) dX7_told_25
  · refine lv_ldc hx hb hown (hW _ (wa tw641 rfl)) dX7_told_8 ?_
    exact W.iret (v := (-100001)) hx hb hr (fun t ht _ => ⟨_, rfl, (by simp only [f7_told, if_pos c_1]), ht⟩) (fun q h => by cases h) dX7_told_10

def f7_lot (Z : Nat → Nat → Int32) (L : Nat) (tool shift : Int32) : Int32 := (if (f7_isTool tool) = 0 then ((-100001)) else (if (f7_in shift.toInt64 (-9999) 9999) = 0 then ((-100002)) else (if (Z 12 1) = 60 then ((-100004)) else (((Z 12 1) + 1) - 1))))
def f7_lot_Z (Z : Nat → Nat → Int32) (L : Nat) (tool shift : Int32) : Nat → Nat → Int32 := (if (f7_isTool tool) = 0 then (Z) else (if (f7_in shift.toInt64 (-9999) 9999) = 0 then (Z) else (if (Z 12 1) = 60 then (Z) else (uM (uM (uM (uM Z 4 (upd (Z 4) L tool)) 5 (upd (Z 5) L shift)) 7 (upd (Z 7) L 0)) 12 (upd (Z 12) 1 ((Z 12 1) + 1))))))
set_option maxHeartbeats 4000000 in
set_option maxRecDepth 100000 in
theorem kX7_lot (l : Launch) (D : va_G) (C : Nat → ClassId) (a : Nat → Nat) (Z : Nat → Nat → Int32) (Y : Nat → Nat → Int64) (tool shift : Int32) (sz : Nat) (L : Nat) (hL : Z 12 1 = nI L) (hL60 : L ≤ 60) : Wi l D C yX7_lot cX7_lot 3 .int 2 [.ref (a 0), .int tool, .int shift] (wZ a C Z Y) ((wZ a C (f7_lot_Z Z L tool shift) Y)) (f7_lot Z L tool shift) sz := by
  refine Met.ofW (cc := cX7_lot) (maxL := 3) (ret := (some .int)) (by decide) rfl ?_
  intro p e s m args below meth c s₁ B hml hv
  obtain ⟨rfl, hsz, hP, hK, hNw, hD0⟩ := hv
  have hx := B.exec
  have hb := B.bytes
  have hr := B.returns
  have hts := atoms_spec (ws := wm yX7_lot cX7_lot 3 (some .int)) B.pre
  have hown : s.vm.findClass RX7 = some m.cls := findClass_of_methodNamed B.named
  have hlocks := B.notSynchronized
  have hW : ∀ w ∈ WA, w.before _ s = true := fun w h => hts w (List.mem_cons_of_mem _ h)
  subst hsz
  have hD := hD0.self (sz := s.heap.size)
  generalize hAe : va_A (wZ a C Z Y) s.heap.size = A at hD ⊢
  have hA : ∀ q : Nat, s.heap.size ≤ q → A q := fun q h => by rw [← hAe]; exact Or.inr h
  have hS : va_S A s.heap s.heap [] := va_S.rf
  have hP : va_P D vwCl [((a 0), .inr (7, [.int (Z 12 0), .ref (a 1), .ref (a 2), .ref (a 3), .ref (a 4), .int (Z 12 1), .ref (a 5), .ref (a 6), .ref (a 7), .ref (a 8), .ref (a 9), .int (Z 12 2), .ref (a 10), .int (Z 12 3), .int (Z 12 4), .ref (a 11), .ref (a 12), .long (Y 5 0), .ref (a 13), .ref (a 14), .ref (a 15), .ref (a 16), .ref (a 17)])), ((a 1), eI C 48 (Z 0)), ((a 2), eI C 24 (Z 1)), ((a 3), eZ C 12 (Z 2)), ((a 4), eZ C 12 (Z 3)), ((a 5), eI C 60 (Z 4)), ((a 6), eI C 60 (Z 5)), ((a 7), eI C 60 (Z 6)), ((a 8), eZ C 60 (Z 7)), ((a 9), eZ C 244 (Z 8)), ((a 10), eI C 24 (Z 9)), ((a 11), eJ C 9 (Y 0)), ((a 12), eJ C 9 (Y 1)), ((a 13), eJ C 3 (Y 2)), ((a 14), eJ C 3 (Y 3)), ((a 15), eJ C 12 (Y 4)), ((a 16), eI C 6 (Z 10)), ((a 17), eI C 4 (Z 11))] s.heap := hP
  have hD : va_D A [((a 0), .inr (7, [.int (Z 12 0), .ref (a 1), .ref (a 2), .ref (a 3), .ref (a 4), .int (Z 12 1), .ref (a 5), .ref (a 6), .ref (a 7), .ref (a 8), .ref (a 9), .int (Z 12 2), .ref (a 10), .int (Z 12 3), .int (Z 12 4), .ref (a 11), .ref (a 12), .long (Y 5 0), .ref (a 13), .ref (a 14), .ref (a 15), .ref (a 16), .ref (a 17)])), ((a 1), eI C 48 (Z 0)), ((a 2), eI C 24 (Z 1)), ((a 3), eZ C 12 (Z 2)), ((a 4), eZ C 12 (Z 3)), ((a 5), eI C 60 (Z 4)), ((a 6), eI C 60 (Z 5)), ((a 7), eI C 60 (Z 6)), ((a 8), eZ C 60 (Z 7)), ((a 9), eZ C 244 (Z 8)), ((a 10), eI C 24 (Z 9)), ((a 11), eJ C 9 (Y 0)), ((a 12), eJ C 9 (Y 1)), ((a 13), eJ C 3 (Y 2)), ((a 14), eJ C 3 (Y 3)), ((a 15), eJ C 12 (Y 4)), ((a 16), eI C 6 (Z 10)), ((a 17), eI C 4 (Z 11))] := hD
  have hl := lv_entry ([.ref (a 0), .int tool, .int shift]) (n := 3) (Nat.le_of_ble_eq_true rfl)
  rw [lg_entry_eq]
  generalize (lg_sl ([.ref (a 0), .int tool, .int shift]) ++ List.replicate (3 - (lg_sl ([.ref (a 0), .int tool, .int shift])).length) Slot.unset).toArray = ls at hl ⊢
  have hl : lv_has ls 3 [(0, .ref (a 0)), (1, .int tool), (2, .int shift)] := hl
  refine lv_iload_n hx hb dX7_lot_0 rfl (lv_at hl 1 rfl) ?_
  refine xri (r := f7_isTool tool) (rS (As := [.int tool]) (n := 1) (rest := []) ⟨hx, hb, hml, hown, hW⟩ (kX7_isTool l tool) (wa tw752 rfl) (wa tw750 rfl) (wa tw751 rfl) (wa tw8 rfl) (by decide +kernel) ⟨Nat.le_of_ble_eq_true rfl, Nat.le_of_ble_eq_true rfl⟩ pS0 hl.1 rfl (Nat.le_of_ble_eq_true rfl) dX7_lot_1 ⟨Nat.le_of_ble_eq_true rfl, Nat.le_of_ble_eq_true rfl⟩ rfl rfl rfl) ?_
  refine lv_if_ne (tgt := 10) hx hb dX7_lot_4 (by decide) (fun c_1 => ?_) (fun c_1 => ?_)
  · refine lv_iload_n hx hb dX7_lot_10 rfl (lv_at hl 2 rfl) ?_
    refine lv_i2l (v := shift.toInt64) hx hb dX7_lot_11 rfl ?_
    refine lv_ldc2 hx hb hown (hW _ (wa tw753 rfl)) dX7_lot_12 ?_
    refine lv_ldc2 hx hb hown (hW _ (wa tw754 rfl)) dX7_lot_15 ?_
    refine xri (r := f7_in shift.toInt64 (-9999) 9999) (rS (As := [.long shift.toInt64, .long (-9999), .long 9999]) (n := 3) (rest := []) ⟨hx, hb, hml, hown, hW⟩ (kX7_in l shift.toInt64 (-9999) 9999) (wa tw628 rfl) (wa tw626 rfl) (wa tw627 rfl) (wa tw8 rfl) (by decide +kernel) ⟨Nat.le_of_ble_eq_true rfl, Nat.le_of_ble_eq_true rfl⟩ pS0 hl.1 rfl (Nat.le_of_ble_eq_true rfl) dX7_lot_18 ⟨Nat.le_of_ble_eq_true rfl, Nat.le_of_ble_eq_true rfl⟩ rfl rfl rfl) ?_
    refine lv_if_ne (tgt := 27) hx hb dX7_lot_21 (by decide) (fun c_2 => ?_) (fun c_2 => ?_)
    · refine lv_aload_n hx hb dX7_lot_27 rfl (lv_at hl 0 rfl) ?_
      refine va_get (D := D) (ci := 7) (C := RX7) (T := TX7) (N := 23) hx hb hW inX7 hown hK hP 0 rfl rfl 5 (by decide) (hW _ (wa tw555 rfl)) (fun _ h9 => h9) rfl dX7_lot_28 ?_
      refine lv_bipush (v := 60) hx hb dX7_lot_31 (by decide) ?_
      refine lv_icmp_ne (tgt := 39) hx hb dX7_lot_33 (by decide) (fun c_3 => ?_) (fun c_3 => ?_)
      · have hlt : L < 60 := q_lt60 hL hL60 c_3
        refine lv_aload_n hx hb dX7_lot_39 rfl (lv_at hl 0 rfl) ?_
        refine va_get (D := D) (ci := 7) (C := RX7) (T := TX7) (N := 23) hx hb hW inX7 hown hK hP 0 rfl rfl 6 (by decide) (hW _ (wa tw556 rfl)) (fun _ h9 => h9) rfl dX7_lot_40 ?_
        refine lv_aload_n hx hb dX7_lot_43 rfl (lv_at hl 0 rfl) ?_
        refine va_get (D := D) (ci := 7) (C := RX7) (T := TX7) (N := 23) hx hb hW inX7 hown hK hP 0 rfl rfl 5 (by decide) (hW _ (wa tw555 rfl)) (fun _ h9 => h9) rfl dX7_lot_44 ?_
        refine lv_iload_n hx hb dX7_lot_47 rfl (lv_at hl 1 rfl) ?_
        refine xiast hx hb hK hP hD hS 5 rfl L hL (by omega) (by decide) dX7_lot_48 (fun H locs hP hD hS => ?_)
        have hP : va_P D vwCl [((a 0), .inr (7, [.int (Z 12 0), .ref (a 1), .ref (a 2), .ref (a 3), .ref (a 4), .int (Z 12 1), .ref (a 5), .ref (a 6), .ref (a 7), .ref (a 8), .ref (a 9), .int (Z 12 2), .ref (a 10), .int (Z 12 3), .int (Z 12 4), .ref (a 11), .ref (a 12), .long (Y 5 0), .ref (a 13), .ref (a 14), .ref (a 15), .ref (a 16), .ref (a 17)])), ((a 1), eI C 48 (Z 0)), ((a 2), eI C 24 (Z 1)), ((a 3), eZ C 12 (Z 2)), ((a 4), eZ C 12 (Z 3)), ((a 5), eI C 60 (upd (Z 4) L tool)), ((a 6), eI C 60 (Z 5)), ((a 7), eI C 60 (Z 6)), ((a 8), eZ C 60 (Z 7)), ((a 9), eZ C 244 (Z 8)), ((a 10), eI C 24 (Z 9)), ((a 11), eJ C 9 (Y 0)), ((a 12), eJ C 9 (Y 1)), ((a 13), eJ C 3 (Y 2)), ((a 14), eJ C 3 (Y 3)), ((a 15), eJ C 12 (Y 4)), ((a 16), eI C 6 (Z 10)), ((a 17), eI C 4 (Z 11))] H := hP
        have hD : va_D A [((a 0), .inr (7, [.int (Z 12 0), .ref (a 1), .ref (a 2), .ref (a 3), .ref (a 4), .int (Z 12 1), .ref (a 5), .ref (a 6), .ref (a 7), .ref (a 8), .ref (a 9), .int (Z 12 2), .ref (a 10), .int (Z 12 3), .int (Z 12 4), .ref (a 11), .ref (a 12), .long (Y 5 0), .ref (a 13), .ref (a 14), .ref (a 15), .ref (a 16), .ref (a 17)])), ((a 1), eI C 48 (Z 0)), ((a 2), eI C 24 (Z 1)), ((a 3), eZ C 12 (Z 2)), ((a 4), eZ C 12 (Z 3)), ((a 5), eI C 60 (upd (Z 4) L tool)), ((a 6), eI C 60 (Z 5)), ((a 7), eI C 60 (Z 6)), ((a 8), eZ C 60 (Z 7)), ((a 9), eZ C 244 (Z 8)), ((a 10), eI C 24 (Z 9)), ((a 11), eJ C 9 (Y 0)), ((a 12), eJ C 9 (Y 1)), ((a 13), eJ C 3 (Y 2)), ((a 14), eJ C 3 (Y 3)), ((a 15), eJ C 12 (Y 4)), ((a 16), eI C 6 (Z 10)), ((a 17), eI C 4 (Z 11))] := hD
        refine lv_aload_n hx hb dX7_lot_49 rfl (lv_at hl 0 rfl) ?_
        refine va_get (D := D) (ci := 7) (C := RX7) (T := TX7) (N := 23) hx hb hW inX7 hown hK hP 0 rfl rfl 7 (by decide) (hW _ (wa tw557 rfl)) (fun _ h9 => h9) rfl dX7_lot_50 ?_
        refine lv_aload_n hx hb dX7_lot_53 rfl (lv_at hl 0 rfl) ?_
        refine va_get (D := D) (ci := 7) (C := RX7) (T := TX7) (N := 23) hx hb hW inX7 hown hK hP 0 rfl rfl 5 (by decide) (hW _ (wa tw555 rfl)) (fun _ h9 => h9) rfl dX7_lot_54 ?_
        refine lv_iload_n hx hb dX7_lot_57 rfl (lv_at hl 2 rfl) ?_
        refine xiast hx hb hK hP hD hS 6 rfl L hL (by omega) (by decide) dX7_lot_58 (fun H locs hP hD hS => ?_)
        have hP : va_P D vwCl [((a 0), .inr (7, [.int (Z 12 0), .ref (a 1), .ref (a 2), .ref (a 3), .ref (a 4), .int (Z 12 1), .ref (a 5), .ref (a 6), .ref (a 7), .ref (a 8), .ref (a 9), .int (Z 12 2), .ref (a 10), .int (Z 12 3), .int (Z 12 4), .ref (a 11), .ref (a 12), .long (Y 5 0), .ref (a 13), .ref (a 14), .ref (a 15), .ref (a 16), .ref (a 17)])), ((a 1), eI C 48 (Z 0)), ((a 2), eI C 24 (Z 1)), ((a 3), eZ C 12 (Z 2)), ((a 4), eZ C 12 (Z 3)), ((a 5), eI C 60 (upd (Z 4) L tool)), ((a 6), eI C 60 (upd (Z 5) L shift)), ((a 7), eI C 60 (Z 6)), ((a 8), eZ C 60 (Z 7)), ((a 9), eZ C 244 (Z 8)), ((a 10), eI C 24 (Z 9)), ((a 11), eJ C 9 (Y 0)), ((a 12), eJ C 9 (Y 1)), ((a 13), eJ C 3 (Y 2)), ((a 14), eJ C 3 (Y 3)), ((a 15), eJ C 12 (Y 4)), ((a 16), eI C 6 (Z 10)), ((a 17), eI C 4 (Z 11))] H := hP
        have hD : va_D A [((a 0), .inr (7, [.int (Z 12 0), .ref (a 1), .ref (a 2), .ref (a 3), .ref (a 4), .int (Z 12 1), .ref (a 5), .ref (a 6), .ref (a 7), .ref (a 8), .ref (a 9), .int (Z 12 2), .ref (a 10), .int (Z 12 3), .int (Z 12 4), .ref (a 11), .ref (a 12), .long (Y 5 0), .ref (a 13), .ref (a 14), .ref (a 15), .ref (a 16), .ref (a 17)])), ((a 1), eI C 48 (Z 0)), ((a 2), eI C 24 (Z 1)), ((a 3), eZ C 12 (Z 2)), ((a 4), eZ C 12 (Z 3)), ((a 5), eI C 60 (upd (Z 4) L tool)), ((a 6), eI C 60 (upd (Z 5) L shift)), ((a 7), eI C 60 (Z 6)), ((a 8), eZ C 60 (Z 7)), ((a 9), eZ C 244 (Z 8)), ((a 10), eI C 24 (Z 9)), ((a 11), eJ C 9 (Y 0)), ((a 12), eJ C 9 (Y 1)), ((a 13), eJ C 3 (Y 2)), ((a 14), eJ C 3 (Y 3)), ((a 15), eJ C 12 (Y 4)), ((a 16), eI C 6 (Z 10)), ((a 17), eI C 4 (Z 11))] := hD
        refine lv_aload_n hx hb dX7_lot_59 rfl (lv_at hl 0 rfl) ?_
        refine va_get (D := D) (ci := 7) (C := RX7) (T := TX7) (N := 23) hx hb hW inX7 hown hK hP 0 rfl rfl 9 (by decide) (hW _ (wa tw559 rfl)) (fun _ h9 => h9) rfl dX7_lot_60 ?_
        refine lv_aload_n hx hb dX7_lot_63 rfl (lv_at hl 0 rfl) ?_
        refine va_get (D := D) (ci := 7) (C := RX7) (T := TX7) (N := 23) hx hb hW inX7 hown hK hP 0 rfl rfl 5 (by decide) (hW _ (wa tw555 rfl)) (fun _ h9 => h9) rfl dX7_lot_64 ?_
        refine lv_iconst (v := 0) hx hb dX7_lot_67 (by decide) ?_
        refine xzast hx hb hK hP hD hS 8 rfl L hL (by omega) (by decide) (by decide) dX7_lot_68 (fun H locs hP hD hS => ?_)
        have hP : va_P D vwCl [((a 0), .inr (7, [.int (Z 12 0), .ref (a 1), .ref (a 2), .ref (a 3), .ref (a 4), .int (Z 12 1), .ref (a 5), .ref (a 6), .ref (a 7), .ref (a 8), .ref (a 9), .int (Z 12 2), .ref (a 10), .int (Z 12 3), .int (Z 12 4), .ref (a 11), .ref (a 12), .long (Y 5 0), .ref (a 13), .ref (a 14), .ref (a 15), .ref (a 16), .ref (a 17)])), ((a 1), eI C 48 (Z 0)), ((a 2), eI C 24 (Z 1)), ((a 3), eZ C 12 (Z 2)), ((a 4), eZ C 12 (Z 3)), ((a 5), eI C 60 (upd (Z 4) L tool)), ((a 6), eI C 60 (upd (Z 5) L shift)), ((a 7), eI C 60 (Z 6)), ((a 8), eZ C 60 (upd (Z 7) L 0)), ((a 9), eZ C 244 (Z 8)), ((a 10), eI C 24 (Z 9)), ((a 11), eJ C 9 (Y 0)), ((a 12), eJ C 9 (Y 1)), ((a 13), eJ C 3 (Y 2)), ((a 14), eJ C 3 (Y 3)), ((a 15), eJ C 12 (Y 4)), ((a 16), eI C 6 (Z 10)), ((a 17), eI C 4 (Z 11))] H := hP
        have hD : va_D A [((a 0), .inr (7, [.int (Z 12 0), .ref (a 1), .ref (a 2), .ref (a 3), .ref (a 4), .int (Z 12 1), .ref (a 5), .ref (a 6), .ref (a 7), .ref (a 8), .ref (a 9), .int (Z 12 2), .ref (a 10), .int (Z 12 3), .int (Z 12 4), .ref (a 11), .ref (a 12), .long (Y 5 0), .ref (a 13), .ref (a 14), .ref (a 15), .ref (a 16), .ref (a 17)])), ((a 1), eI C 48 (Z 0)), ((a 2), eI C 24 (Z 1)), ((a 3), eZ C 12 (Z 2)), ((a 4), eZ C 12 (Z 3)), ((a 5), eI C 60 (upd (Z 4) L tool)), ((a 6), eI C 60 (upd (Z 5) L shift)), ((a 7), eI C 60 (Z 6)), ((a 8), eZ C 60 (upd (Z 7) L 0)), ((a 9), eZ C 244 (Z 8)), ((a 10), eI C 24 (Z 9)), ((a 11), eJ C 9 (Y 0)), ((a 12), eJ C 9 (Y 1)), ((a 13), eJ C 3 (Y 2)), ((a 14), eJ C 3 (Y 3)), ((a 15), eJ C 12 (Y 4)), ((a 16), eI C 6 (Z 10)), ((a 17), eI C 4 (Z 11))] := hD
        refine lv_aload_n hx hb dX7_lot_69 rfl (lv_at hl 0 rfl) ?_
        refine lv_dup hx hb dX7_lot_70 rfl ?_
        refine va_get (D := D) (ci := 7) (C := RX7) (T := TX7) (N := 23) hx hb hW inX7 hown hK hP 0 rfl rfl 5 (by decide) (hW _ (wa tw555 rfl)) (fun _ h9 => h9) rfl dX7_lot_71 ?_
        refine lv_iconst (v := 1) hx hb dX7_lot_74 (by decide) ?_
        refine lv_iadd hx hb dX7_lot_75 ?_
        refine va_put (D := D) (v := .int ((Z 12 1) + 1)) (ty := .int) (ci := 7) (C := RX7) (T := TX7) (N := 23) hx hb hW inX7 tyX7 tyX7_ok nmX7 hown hK hP hD hS 0 rfl rfl 5 (by decide) (hW _ (wa tw555 rfl)) (fun _ h9 => h9) rfl (by decide +kernel) rfl rfl (Nat.le_of_ble_eq_true rfl) dX7_lot_76 (fun H locs hP hD hS => ?_)
        have hP : va_P D vwCl [((a 0), .inr (7, [.int (Z 12 0), .ref (a 1), .ref (a 2), .ref (a 3), .ref (a 4), .int ((Z 12 1) + 1), .ref (a 5), .ref (a 6), .ref (a 7), .ref (a 8), .ref (a 9), .int (Z 12 2), .ref (a 10), .int (Z 12 3), .int (Z 12 4), .ref (a 11), .ref (a 12), .long (Y 5 0), .ref (a 13), .ref (a 14), .ref (a 15), .ref (a 16), .ref (a 17)])), ((a 1), eI C 48 (Z 0)), ((a 2), eI C 24 (Z 1)), ((a 3), eZ C 12 (Z 2)), ((a 4), eZ C 12 (Z 3)), ((a 5), eI C 60 (upd (Z 4) L tool)), ((a 6), eI C 60 (upd (Z 5) L shift)), ((a 7), eI C 60 (Z 6)), ((a 8), eZ C 60 (upd (Z 7) L 0)), ((a 9), eZ C 244 (Z 8)), ((a 10), eI C 24 (Z 9)), ((a 11), eJ C 9 (Y 0)), ((a 12), eJ C 9 (Y 1)), ((a 13), eJ C 3 (Y 2)), ((a 14), eJ C 3 (Y 3)), ((a 15), eJ C 12 (Y 4)), ((a 16), eI C 6 (Z 10)), ((a 17), eI C 4 (Z 11))] H := hP
        have hD : va_D A [((a 0), .inr (7, [.int (Z 12 0), .ref (a 1), .ref (a 2), .ref (a 3), .ref (a 4), .int ((Z 12 1) + 1), .ref (a 5), .ref (a 6), .ref (a 7), .ref (a 8), .ref (a 9), .int (Z 12 2), .ref (a 10), .int (Z 12 3), .int (Z 12 4), .ref (a 11), .ref (a 12), .long (Y 5 0), .ref (a 13), .ref (a 14), .ref (a 15), .ref (a 16), .ref (a 17)])), ((a 1), eI C 48 (Z 0)), ((a 2), eI C 24 (Z 1)), ((a 3), eZ C 12 (Z 2)), ((a 4), eZ C 12 (Z 3)), ((a 5), eI C 60 (upd (Z 4) L tool)), ((a 6), eI C 60 (upd (Z 5) L shift)), ((a 7), eI C 60 (Z 6)), ((a 8), eZ C 60 (upd (Z 7) L 0)), ((a 9), eZ C 244 (Z 8)), ((a 10), eI C 24 (Z 9)), ((a 11), eJ C 9 (Y 0)), ((a 12), eJ C 9 (Y 1)), ((a 13), eJ C 3 (Y 2)), ((a 14), eJ C 3 (Y 3)), ((a 15), eJ C 12 (Y 4)), ((a 16), eI C 6 (Z 10)), ((a 17), eI C 4 (Z 11))] := hD
        refine lv_aload_n hx hb dX7_lot_79 rfl (lv_at hl 0 rfl) ?_
        refine va_get (D := D) (ci := 7) (C := RX7) (T := TX7) (N := 23) hx hb hW inX7 hown hK hP 0 rfl rfl 5 (by decide) (hW _ (wa tw555 rfl)) (fun _ h9 => h9) rfl dX7_lot_80 ?_
        refine lv_iconst (v := 1) hx hb dX7_lot_83 (by decide) ?_
        refine lv_isub hx hb dX7_lot_84 ?_
        have hb_0 : (f7_lot_Z Z L tool shift) = uM (uM (uM (uM Z 4 (upd (Z 4) L tool)) 5 (upd (Z 5) L shift)) 7 (upd (Z 7) L 0)) 12 (upd (Z 12) 1 ((Z 12 1) + 1)) := (by simp only [f7_lot, f7_lot_Z, if_neg c_1, if_neg c_2, if_neg c_3])
        have hP9 : va_P D vwCl ((wZ a C (f7_lot_Z Z L tool shift) Y)) H := by rw [hb_0]; exact hP
        have hD9 : va_D A ((wZ a C (f7_lot_Z Z L tool shift) Y)) := by rw [hb_0]; exact hD
        exact W.iret (v := ((Z 12 1) + 1) - 1) hx hb hr (fun t ht _ => ⟨⟨_, (), rfl, (by simp only [f7_lot, f7_lot_Z, if_neg c_1, if_neg c_2, if_neg c_3]), ⟨by rw [ht]; exact hP9, by rw [hAe]; exact hD9⟩⟩, hS.F ht⟩) hS.2.2 dX7_lot_85
      · refine lv_ldc hx hb hown (hW _ (wa tw632 rfl)) dX7_lot_36 ?_
        have hb_0 : (f7_lot_Z Z L tool shift) = Z := (by simp only [f7_lot, f7_lot_Z, if_neg c_1, if_neg c_2, if_pos c_3])
        have hP9 : va_P D vwCl ((wZ a C (f7_lot_Z Z L tool shift) Y)) s.heap := by rw [hb_0]; exact hP
        have hD9 : va_D A ((wZ a C (f7_lot_Z Z L tool shift) Y)) := by rw [hb_0]; exact hD
        exact W.iret (v := (-100004)) hx hb hr (fun t ht _ => ⟨⟨_, (), rfl, (by simp only [f7_lot, f7_lot_Z, if_neg c_1, if_neg c_2, if_pos c_3]), ⟨by rw [ht]; exact hP9, by rw [hAe]; exact hD9⟩⟩, hS.F ht⟩) hS.2.2 dX7_lot_38
    · refine lv_ldc hx hb hown (hW _ (wa tw631 rfl)) dX7_lot_24 ?_
      have hb_0 : (f7_lot_Z Z L tool shift) = Z := (by simp only [f7_lot, f7_lot_Z, if_neg c_1, if_pos c_2])
      have hP9 : va_P D vwCl ((wZ a C (f7_lot_Z Z L tool shift) Y)) s.heap := by rw [hb_0]; exact hP
      have hD9 : va_D A ((wZ a C (f7_lot_Z Z L tool shift) Y)) := by rw [hb_0]; exact hD
      exact W.iret (v := (-100002)) hx hb hr (fun t ht _ => ⟨⟨_, (), rfl, (by simp only [f7_lot, f7_lot_Z, if_neg c_1, if_pos c_2]), ⟨by rw [ht]; exact hP9, by rw [hAe]; exact hD9⟩⟩, hS.F ht⟩) hS.2.2 dX7_lot_26
  · refine lv_ldc hx hb hown (hW _ (wa tw641 rfl)) dX7_lot_7 ?_
    have hb_0 : (f7_lot_Z Z L tool shift) = Z := (by simp only [f7_lot, f7_lot_Z, if_pos c_1])
    have hP9 : va_P D vwCl ((wZ a C (f7_lot_Z Z L tool shift) Y)) s.heap := by rw [hb_0]; exact hP
    have hD9 : va_D A ((wZ a C (f7_lot_Z Z L tool shift) Y)) := by rw [hb_0]; exact hD
    exact W.iret (v := (-100001)) hx hb hr (fun t ht _ => ⟨⟨_, (), rfl, (by simp only [f7_lot, f7_lot_Z, if_pos c_1]), ⟨by rw [ht]; exact hP9, by rw [hAe]; exact hD9⟩⟩, hS.F ht⟩) hS.2.2 dX7_lot_9

def f7_back (Z : Nat → Nat → Int32) (x rd : Int32) : Int32 := (if (f7_in x.toInt64 0 (((Z 12 1) - 1).toInt64)) = 0 then ((-100001)) else (if (f7_in rd.toInt64 (-9999) 9999) = 0 then ((-100002)) else (1)))
def f7_back_Z (Z : Nat → Nat → Int32) (x rd : Int32) : Nat → Nat → Int32 := (if (f7_in x.toInt64 0 (((Z 12 1) - 1).toInt64)) = 0 then (Z) else (if (f7_in rd.toInt64 (-9999) 9999) = 0 then (Z) else (uM (uM Z 6 (upd (Z 6) (ix x) rd)) 7 (upd (Z 7) (ix x) 1))))
set_option maxHeartbeats 4000000 in
set_option maxRecDepth 100000 in
theorem kX7_back (l : Launch) (D : va_G) (C : Nat → ClassId) (a : Nat → Nat) (Z : Nat → Nat → Int32) (Y : Nat → Nat → Int64) (x rd : Int32) (sz : Nat) (L : Nat) (hL : Z 12 1 = nI L) (hL60 : L ≤ 60) : Wi l D C yX7_back cX7_back 3 .int 1 [.ref (a 0), .int x, .int rd] (wZ a C Z Y) ((wZ a C (f7_back_Z Z x rd) Y)) (f7_back Z x rd) sz := by
  refine Met.ofW (cc := cX7_back) (maxL := 3) (ret := (some .int)) (by decide) rfl ?_
  intro p e s m args below meth c s₁ B hml hv
  obtain ⟨rfl, hsz, hP, hK, hNw, hD0⟩ := hv
  have hx := B.exec
  have hb := B.bytes
  have hr := B.returns
  have hts := atoms_spec (ws := wm yX7_back cX7_back 3 (some .int)) B.pre
  have hown : s.vm.findClass RX7 = some m.cls := findClass_of_methodNamed B.named
  have hlocks := B.notSynchronized
  have hW : ∀ w ∈ WA, w.before _ s = true := fun w h => hts w (List.mem_cons_of_mem _ h)
  subst hsz
  have hD := hD0.self (sz := s.heap.size)
  generalize hAe : va_A (wZ a C Z Y) s.heap.size = A at hD ⊢
  have hA : ∀ q : Nat, s.heap.size ≤ q → A q := fun q h => by rw [← hAe]; exact Or.inr h
  have hS : va_S A s.heap s.heap [] := va_S.rf
  have hP : va_P D vwCl [((a 0), .inr (7, [.int (Z 12 0), .ref (a 1), .ref (a 2), .ref (a 3), .ref (a 4), .int (Z 12 1), .ref (a 5), .ref (a 6), .ref (a 7), .ref (a 8), .ref (a 9), .int (Z 12 2), .ref (a 10), .int (Z 12 3), .int (Z 12 4), .ref (a 11), .ref (a 12), .long (Y 5 0), .ref (a 13), .ref (a 14), .ref (a 15), .ref (a 16), .ref (a 17)])), ((a 1), eI C 48 (Z 0)), ((a 2), eI C 24 (Z 1)), ((a 3), eZ C 12 (Z 2)), ((a 4), eZ C 12 (Z 3)), ((a 5), eI C 60 (Z 4)), ((a 6), eI C 60 (Z 5)), ((a 7), eI C 60 (Z 6)), ((a 8), eZ C 60 (Z 7)), ((a 9), eZ C 244 (Z 8)), ((a 10), eI C 24 (Z 9)), ((a 11), eJ C 9 (Y 0)), ((a 12), eJ C 9 (Y 1)), ((a 13), eJ C 3 (Y 2)), ((a 14), eJ C 3 (Y 3)), ((a 15), eJ C 12 (Y 4)), ((a 16), eI C 6 (Z 10)), ((a 17), eI C 4 (Z 11))] s.heap := hP
  have hD : va_D A [((a 0), .inr (7, [.int (Z 12 0), .ref (a 1), .ref (a 2), .ref (a 3), .ref (a 4), .int (Z 12 1), .ref (a 5), .ref (a 6), .ref (a 7), .ref (a 8), .ref (a 9), .int (Z 12 2), .ref (a 10), .int (Z 12 3), .int (Z 12 4), .ref (a 11), .ref (a 12), .long (Y 5 0), .ref (a 13), .ref (a 14), .ref (a 15), .ref (a 16), .ref (a 17)])), ((a 1), eI C 48 (Z 0)), ((a 2), eI C 24 (Z 1)), ((a 3), eZ C 12 (Z 2)), ((a 4), eZ C 12 (Z 3)), ((a 5), eI C 60 (Z 4)), ((a 6), eI C 60 (Z 5)), ((a 7), eI C 60 (Z 6)), ((a 8), eZ C 60 (Z 7)), ((a 9), eZ C 244 (Z 8)), ((a 10), eI C 24 (Z 9)), ((a 11), eJ C 9 (Y 0)), ((a 12), eJ C 9 (Y 1)), ((a 13), eJ C 3 (Y 2)), ((a 14), eJ C 3 (Y 3)), ((a 15), eJ C 12 (Y 4)), ((a 16), eI C 6 (Z 10)), ((a 17), eI C 4 (Z 11))] := hD
  have hl := lv_entry ([.ref (a 0), .int x, .int rd]) (n := 3) (Nat.le_of_ble_eq_true rfl)
  rw [lg_entry_eq]
  generalize (lg_sl ([.ref (a 0), .int x, .int rd]) ++ List.replicate (3 - (lg_sl ([.ref (a 0), .int x, .int rd])).length) Slot.unset).toArray = ls at hl ⊢
  have hl : lv_has ls 3 [(0, .ref (a 0)), (1, .int x), (2, .int rd)] := hl
  refine lv_iload_n hx hb dX7_back_0 rfl (lv_at hl 1 rfl) ?_
  refine lv_i2l (v := x.toInt64) hx hb dX7_back_1 rfl ?_
  refine lv_lconst (v := 0) hx hb dX7_back_2 (by decide) ?_
  refine lv_aload_n hx hb dX7_back_3 rfl (lv_at hl 0 rfl) ?_
  refine va_get (D := D) (ci := 7) (C := RX7) (T := TX7) (N := 23) hx hb hW inX7 hown hK hP 0 rfl rfl 5 (by decide) (hW _ (wa tw555 rfl)) (fun _ h9 => h9) rfl dX7_back_4 ?_
  refine lv_iconst (v := 1) hx hb dX7_back_7 (by decide) ?_
  refine lv_isub hx hb dX7_back_8 ?_
  refine lv_i2l (v := ((Z 12 1) - 1).toInt64) hx hb dX7_back_9 rfl ?_
  refine xri (r := f7_in x.toInt64 0 (((Z 12 1) - 1).toInt64)) (rS (As := [.long x.toInt64, .long 0, .long (((Z 12 1) - 1).toInt64)]) (n := 3) (rest := []) ⟨hx, hb, hml, hown, hW⟩ (kX7_in l x.toInt64 0 (((Z 12 1) - 1).toInt64)) (wa tw628 rfl) (wa tw626 rfl) (wa tw627 rfl) (wa tw8 rfl) (by decide +kernel) ⟨Nat.le_of_ble_eq_true rfl, Nat.le_of_ble_eq_true rfl⟩ pS0 hl.1 rfl (Nat.le_of_ble_eq_true rfl) dX7_back_10 ⟨Nat.le_of_ble_eq_true rfl, Nat.le_of_ble_eq_true rfl⟩ rfl rfl rfl) ?_
  refine lv_if_ne (tgt := 19) hx hb dX7_back_13 (by decide) (fun c_1 => ?_) (fun c_1 => ?_)
  · obtain ⟨k, hk, rfl⟩ := q_inC (n := L) (by rw [hL, Int32.toInt_toInt64, q_pred (by omega)]) (by omega) c_1
    have hix_k : ix (nI k) = k := ix_nI (by omega)
    refine lv_iload_n hx hb dX7_back_19 rfl (lv_at hl 2 rfl) ?_
    refine lv_i2l (v := rd.toInt64) hx hb dX7_back_20 rfl ?_
    refine lv_ldc2 hx hb hown (hW _ (wa tw753 rfl)) dX7_back_21 ?_
    refine lv_ldc2 hx hb hown (hW _ (wa tw754 rfl)) dX7_back_24 ?_
    refine xri (r := f7_in rd.toInt64 (-9999) 9999) (rS (As := [.long rd.toInt64, .long (-9999), .long 9999]) (n := 3) (rest := []) ⟨hx, hb, hml, hown, hW⟩ (kX7_in l rd.toInt64 (-9999) 9999) (wa tw628 rfl) (wa tw626 rfl) (wa tw627 rfl) (wa tw8 rfl) (by decide +kernel) ⟨Nat.le_of_ble_eq_true rfl, Nat.le_of_ble_eq_true rfl⟩ pS0 hl.1 rfl (Nat.le_of_ble_eq_true rfl) dX7_back_27 ⟨Nat.le_of_ble_eq_true rfl, Nat.le_of_ble_eq_true rfl⟩ rfl rfl rfl) ?_
    refine lv_if_ne (tgt := 36) hx hb dX7_back_30 (by decide) (fun c_2 => ?_) (fun c_2 => ?_)
    · refine lv_aload_n hx hb dX7_back_36 rfl (lv_at hl 0 rfl) ?_
      refine va_get (D := D) (ci := 7) (C := RX7) (T := TX7) (N := 23) hx hb hW inX7 hown hK hP 0 rfl rfl 8 (by decide) (hW _ (wa tw558 rfl)) (fun _ h9 => h9) rfl dX7_back_37 ?_
      refine lv_iload_n hx hb dX7_back_40 rfl (lv_at hl 1 rfl) ?_
      refine lv_iload_n hx hb dX7_back_41 rfl (lv_at hl 2 rfl) ?_
      refine xiast hx hb hK hP hD hS 7 rfl k rfl (by omega) (by decide) dX7_back_42 (fun H locs hP hD hS => ?_)
      have hP : va_P D vwCl [((a 0), .inr (7, [.int (Z 12 0), .ref (a 1), .ref (a 2), .ref (a 3), .ref (a 4), .int (Z 12 1), .ref (a 5), .ref (a 6), .ref (a 7), .ref (a 8), .ref (a 9), .int (Z 12 2), .ref (a 10), .int (Z 12 3), .int (Z 12 4), .ref (a 11), .ref (a 12), .long (Y 5 0), .ref (a 13), .ref (a 14), .ref (a 15), .ref (a 16), .ref (a 17)])), ((a 1), eI C 48 (Z 0)), ((a 2), eI C 24 (Z 1)), ((a 3), eZ C 12 (Z 2)), ((a 4), eZ C 12 (Z 3)), ((a 5), eI C 60 (Z 4)), ((a 6), eI C 60 (Z 5)), ((a 7), eI C 60 (upd (Z 6) k rd)), ((a 8), eZ C 60 (Z 7)), ((a 9), eZ C 244 (Z 8)), ((a 10), eI C 24 (Z 9)), ((a 11), eJ C 9 (Y 0)), ((a 12), eJ C 9 (Y 1)), ((a 13), eJ C 3 (Y 2)), ((a 14), eJ C 3 (Y 3)), ((a 15), eJ C 12 (Y 4)), ((a 16), eI C 6 (Z 10)), ((a 17), eI C 4 (Z 11))] H := hP
      have hD : va_D A [((a 0), .inr (7, [.int (Z 12 0), .ref (a 1), .ref (a 2), .ref (a 3), .ref (a 4), .int (Z 12 1), .ref (a 5), .ref (a 6), .ref (a 7), .ref (a 8), .ref (a 9), .int (Z 12 2), .ref (a 10), .int (Z 12 3), .int (Z 12 4), .ref (a 11), .ref (a 12), .long (Y 5 0), .ref (a 13), .ref (a 14), .ref (a 15), .ref (a 16), .ref (a 17)])), ((a 1), eI C 48 (Z 0)), ((a 2), eI C 24 (Z 1)), ((a 3), eZ C 12 (Z 2)), ((a 4), eZ C 12 (Z 3)), ((a 5), eI C 60 (Z 4)), ((a 6), eI C 60 (Z 5)), ((a 7), eI C 60 (upd (Z 6) k rd)), ((a 8), eZ C 60 (Z 7)), ((a 9), eZ C 244 (Z 8)), ((a 10), eI C 24 (Z 9)), ((a 11), eJ C 9 (Y 0)), ((a 12), eJ C 9 (Y 1)), ((a 13), eJ C 3 (Y 2)), ((a 14), eJ C 3 (Y 3)), ((a 15), eJ C 12 (Y 4)), ((a 16), eI C 6 (Z 10)), ((a 17), eI C 4 (Z 11))] := hD
      refine lv_aload_n hx hb dX7_back_43 rfl (lv_at hl 0 rfl) ?_
      refine va_get (D := D) (ci := 7) (C := RX7) (T := TX7) (N := 23) hx hb hW inX7 hown hK hP 0 rfl rfl 9 (by decide) (hW _ (wa tw559 rfl)) (fun _ h9 => h9) rfl dX7_back_44 ?_
      refine lv_iload_n hx hb dX7_back_47 rfl (lv_at hl 1 rfl) ?_
      refine lv_iconst (v := 1) hx hb dX7_back_48 (by decide) ?_
      refine xzast hx hb hK hP hD hS 8 rfl k rfl (by omega) (by decide) (by decide) dX7_back_49 (fun H locs hP hD hS => ?_)
      have hP : va_P D vwCl [((a 0), .inr (7, [.int (Z 12 0), .ref (a 1), .ref (a 2), .ref (a 3), .ref (a 4), .int (Z 12 1), .ref (a 5), .ref (a 6), .ref (a 7), .ref (a 8), .ref (a 9), .int (Z 12 2), .ref (a 10), .int (Z 12 3), .int (Z 12 4), .ref (a 11), .ref (a 12), .long (Y 5 0), .ref (a 13), .ref (a 14), .ref (a 15), .ref (a 16), .ref (a 17)])), ((a 1), eI C 48 (Z 0)), ((a 2), eI C 24 (Z 1)), ((a 3), eZ C 12 (Z 2)), ((a 4), eZ C 12 (Z 3)), ((a 5), eI C 60 (Z 4)), ((a 6), eI C 60 (Z 5)), ((a 7), eI C 60 (upd (Z 6) k rd)), ((a 8), eZ C 60 (upd (Z 7) k 1)), ((a 9), eZ C 244 (Z 8)), ((a 10), eI C 24 (Z 9)), ((a 11), eJ C 9 (Y 0)), ((a 12), eJ C 9 (Y 1)), ((a 13), eJ C 3 (Y 2)), ((a 14), eJ C 3 (Y 3)), ((a 15), eJ C 12 (Y 4)), ((a 16), eI C 6 (Z 10)), ((a 17), eI C 4 (Z 11))] H := hP
      have hD : va_D A [((a 0), .inr (7, [.int (Z 12 0), .ref (a 1), .ref (a 2), .ref (a 3), .ref (a 4), .int (Z 12 1), .ref (a 5), .ref (a 6), .ref (a 7), .ref (a 8), .ref (a 9), .int (Z 12 2), .ref (a 10), .int (Z 12 3), .int (Z 12 4), .ref (a 11), .ref (a 12), .long (Y 5 0), .ref (a 13), .ref (a 14), .ref (a 15), .ref (a 16), .ref (a 17)])), ((a 1), eI C 48 (Z 0)), ((a 2), eI C 24 (Z 1)), ((a 3), eZ C 12 (Z 2)), ((a 4), eZ C 12 (Z 3)), ((a 5), eI C 60 (Z 4)), ((a 6), eI C 60 (Z 5)), ((a 7), eI C 60 (upd (Z 6) k rd)), ((a 8), eZ C 60 (upd (Z 7) k 1)), ((a 9), eZ C 244 (Z 8)), ((a 10), eI C 24 (Z 9)), ((a 11), eJ C 9 (Y 0)), ((a 12), eJ C 9 (Y 1)), ((a 13), eJ C 3 (Y 2)), ((a 14), eJ C 3 (Y 3)), ((a 15), eJ C 12 (Y 4)), ((a 16), eI C 6 (Z 10)), ((a 17), eI C 4 (Z 11))] := hD
      refine lv_iconst (v := 1) hx hb dX7_back_50 (by decide) ?_
      have hb_0 : (f7_back_Z Z (nI k) rd) = uM (uM Z 6 (upd (Z 6) k rd)) 7 (upd (Z 7) k 1) := (by simp only [f7_back, f7_back_Z, if_neg c_1, if_neg c_2, hix_k])
      have hP9 : va_P D vwCl ((wZ a C (f7_back_Z Z (nI k) rd) Y)) H := by rw [hb_0]; exact hP
      have hD9 : va_D A ((wZ a C (f7_back_Z Z (nI k) rd) Y)) := by rw [hb_0]; exact hD
      exact W.iret (v := 1) hx hb hr (fun t ht _ => ⟨⟨_, (), rfl, (by simp only [f7_back, f7_back_Z, if_neg c_1, if_neg c_2, hix_k]), ⟨by rw [ht]; exact hP9, by rw [hAe]; exact hD9⟩⟩, hS.F ht⟩) hS.2.2 dX7_back_51
    · refine lv_ldc hx hb hown (hW _ (wa tw631 rfl)) dX7_back_33 ?_
      have hb_0 : (f7_back_Z Z (nI k) rd) = Z := (by simp only [f7_back, f7_back_Z, if_neg c_1, if_pos c_2, hix_k])
      have hP9 : va_P D vwCl ((wZ a C (f7_back_Z Z (nI k) rd) Y)) s.heap := by rw [hb_0]; exact hP
      have hD9 : va_D A ((wZ a C (f7_back_Z Z (nI k) rd) Y)) := by rw [hb_0]; exact hD
      exact W.iret (v := (-100002)) hx hb hr (fun t ht _ => ⟨⟨_, (), rfl, (by simp only [f7_back, f7_back_Z, if_neg c_1, if_pos c_2, hix_k]), ⟨by rw [ht]; exact hP9, by rw [hAe]; exact hD9⟩⟩, hS.F ht⟩) hS.2.2 dX7_back_35
  · refine lv_ldc hx hb hown (hW _ (wa tw641 rfl)) dX7_back_16 ?_
    have hb_0 : (f7_back_Z Z x rd) = Z := (by simp only [f7_back, f7_back_Z, if_pos c_1])
    have hP9 : va_P D vwCl ((wZ a C (f7_back_Z Z x rd) Y)) s.heap := by rw [hb_0]; exact hP
    have hD9 : va_D A ((wZ a C (f7_back_Z Z x rd) Y)) := by rw [hb_0]; exact hD
    exact W.iret (v := (-100001)) hx hb hr (fun t ht _ => ⟨⟨_, (), rfl, (by simp only [f7_back, f7_back_Z, if_pos c_1]), ⟨by rw [ht]; exact hP9, by rw [hAe]; exact hD9⟩⟩, hS.F ht⟩) hS.2.2 dX7_back_18

def f7_mend (Z : Nat → Nat → Int32) (L : Nat) (tool : Int32) : Int32 := (if (f7_isTool tool) = 0 then ((-100001)) else (1))
def f7_mend_Z (Z : Nat → Nat → Int32) (L : Nat) (tool : Int32) : Nat → Nat → Int32 := (if (f7_isTool tool) = 0 then (Z) else (uM Z 8 (upd (Z 8) ((4 * L) + (ix tool)) 1)))
set_option maxHeartbeats 4000000 in
set_option maxRecDepth 100000 in
theorem kX7_mend (l : Launch) (D : va_G) (C : Nat → ClassId) (a : Nat → Nat) (Z : Nat → Nat → Int32) (Y : Nat → Nat → Int64) (tool : Int32) (sz : Nat) (L : Nat) (hL : Z 12 1 = nI L) (hL60 : L ≤ 60) : Wi l D C yX7_mend cX7_mend 2 .int 2 [.ref (a 0), .int tool] (wZ a C Z Y) ((wZ a C (f7_mend_Z Z L tool) Y)) (f7_mend Z L tool) sz := by
  refine Met.ofW (cc := cX7_mend) (maxL := 2) (ret := (some .int)) (by decide) rfl ?_
  intro p e s m args below meth c s₁ B hml hv
  obtain ⟨rfl, hsz, hP, hK, hNw, hD0⟩ := hv
  have hx := B.exec
  have hb := B.bytes
  have hr := B.returns
  have hts := atoms_spec (ws := wm yX7_mend cX7_mend 2 (some .int)) B.pre
  have hown : s.vm.findClass RX7 = some m.cls := findClass_of_methodNamed B.named
  have hlocks := B.notSynchronized
  have hW : ∀ w ∈ WA, w.before _ s = true := fun w h => hts w (List.mem_cons_of_mem _ h)
  subst hsz
  have hD := hD0.self (sz := s.heap.size)
  generalize hAe : va_A (wZ a C Z Y) s.heap.size = A at hD ⊢
  have hA : ∀ q : Nat, s.heap.size ≤ q → A q := fun q h => by rw [← hAe]; exact Or.inr h
  have hS : va_S A s.heap s.heap [] := va_S.rf
  have hP : va_P D vwCl [((a 0), .inr (7, [.int (Z 12 0), .ref (a 1), .ref (a 2), .ref (a 3), .ref (a 4), .int (Z 12 1), .ref (a 5), .ref (a 6), .ref (a 7), .ref (a 8), .ref (a 9), .int (Z 12 2), .ref (a 10), .int (Z 12 3), .int (Z 12 4), .ref (a 11), .ref (a 12), .long (Y 5 0), .ref (a 13), .ref (a 14), .ref (a 15), .ref (a 16), .ref (a 17)])), ((a 1), eI C 48 (Z 0)), ((a 2), eI C 24 (Z 1)), ((a 3), eZ C 12 (Z 2)), ((a 4), eZ C 12 (Z 3)), ((a 5), eI C 60 (Z 4)), ((a 6), eI C 60 (Z 5)), ((a 7), eI C 60 (Z 6)), ((a 8), eZ C 60 (Z 7)), ((a 9), eZ C 244 (Z 8)), ((a 10), eI C 24 (Z 9)), ((a 11), eJ C 9 (Y 0)), ((a 12), eJ C 9 (Y 1)), ((a 13), eJ C 3 (Y 2)), ((a 14), eJ C 3 (Y 3)), ((a 15), eJ C 12 (Y 4)), ((a 16), eI C 6 (Z 10)), ((a 17), eI C 4 (Z 11))] s.heap := hP
  have hD : va_D A [((a 0), .inr (7, [.int (Z 12 0), .ref (a 1), .ref (a 2), .ref (a 3), .ref (a 4), .int (Z 12 1), .ref (a 5), .ref (a 6), .ref (a 7), .ref (a 8), .ref (a 9), .int (Z 12 2), .ref (a 10), .int (Z 12 3), .int (Z 12 4), .ref (a 11), .ref (a 12), .long (Y 5 0), .ref (a 13), .ref (a 14), .ref (a 15), .ref (a 16), .ref (a 17)])), ((a 1), eI C 48 (Z 0)), ((a 2), eI C 24 (Z 1)), ((a 3), eZ C 12 (Z 2)), ((a 4), eZ C 12 (Z 3)), ((a 5), eI C 60 (Z 4)), ((a 6), eI C 60 (Z 5)), ((a 7), eI C 60 (Z 6)), ((a 8), eZ C 60 (Z 7)), ((a 9), eZ C 244 (Z 8)), ((a 10), eI C 24 (Z 9)), ((a 11), eJ C 9 (Y 0)), ((a 12), eJ C 9 (Y 1)), ((a 13), eJ C 3 (Y 2)), ((a 14), eJ C 3 (Y 3)), ((a 15), eJ C 12 (Y 4)), ((a 16), eI C 6 (Z 10)), ((a 17), eI C 4 (Z 11))] := hD
  have hl := lv_entry ([.ref (a 0), .int tool]) (n := 2) (Nat.le_of_ble_eq_true rfl)
  rw [lg_entry_eq]
  generalize (lg_sl ([.ref (a 0), .int tool]) ++ List.replicate (2 - (lg_sl ([.ref (a 0), .int tool])).length) Slot.unset).toArray = ls at hl ⊢
  have hl : lv_has ls 2 [(0, .ref (a 0)), (1, .int tool)] := hl
  refine lv_iload_n hx hb dX7_mend_0 rfl (lv_at hl 1 rfl) ?_
  refine xri (r := f7_isTool tool) (rS (As := [.int tool]) (n := 1) (rest := []) ⟨hx, hb, hml, hown, hW⟩ (kX7_isTool l tool) (wa tw752 rfl) (wa tw750 rfl) (wa tw751 rfl) (wa tw8 rfl) (by decide +kernel) ⟨Nat.le_of_ble_eq_true rfl, Nat.le_of_ble_eq_true rfl⟩ pS0 hl.1 rfl (Nat.le_of_ble_eq_true rfl) dX7_mend_1 ⟨Nat.le_of_ble_eq_true rfl, Nat.le_of_ble_eq_true rfl⟩ rfl rfl rfl) ?_
  refine lv_if_ne (tgt := 10) hx hb dX7_mend_4 (by decide) (fun c_1 => ?_) (fun c_1 => ?_)
  · obtain ⟨k, hk, rfl⟩ := q_isTool c_1
    have hix_k : ix (nI k) = k := ix_nI (by omega)
    refine lv_aload_n hx hb dX7_mend_10 rfl (lv_at hl 0 rfl) ?_
    refine va_get (D := D) (ci := 7) (C := RX7) (T := TX7) (N := 23) hx hb hW inX7 hown hK hP 0 rfl rfl 10 (by decide) (hW _ (wa tw560 rfl)) (fun _ h9 => h9) rfl dX7_mend_11 ?_
    refine lv_iconst (v := 4) hx hb dX7_mend_14 (by decide) ?_
    refine lv_aload_n hx hb dX7_mend_15 rfl (lv_at hl 0 rfl) ?_
    refine va_get (D := D) (ci := 7) (C := RX7) (T := TX7) (N := 23) hx hb hW inX7 hown hK hP 0 rfl rfl 5 (by decide) (hW _ (wa tw555 rfl)) (fun _ h9 => h9) rfl dX7_mend_16 ?_
    refine lv_imul hx hb dX7_mend_19 ?_
    refine lv_iload_n hx hb dX7_mend_20 rfl (lv_at hl 1 rfl) ?_
    refine lv_iadd hx hb dX7_mend_21 ?_
    refine lv_iconst (v := 1) hx hb dX7_mend_22 (by decide) ?_
    refine xzast hx hb hK hP hD hS 9 rfl ((4 * L) + k) (q_add (q_mul (nI_lit 4) hL) rfl) (by omega) (by decide) (by decide) dX7_mend_23 (fun H locs hP hD hS => ?_)
    have hP : va_P D vwCl [((a 0), .inr (7, [.int (Z 12 0), .ref (a 1), .ref (a 2), .ref (a 3), .ref (a 4), .int (Z 12 1), .ref (a 5), .ref (a 6), .ref (a 7), .ref (a 8), .ref (a 9), .int (Z 12 2), .ref (a 10), .int (Z 12 3), .int (Z 12 4), .ref (a 11), .ref (a 12), .long (Y 5 0), .ref (a 13), .ref (a 14), .ref (a 15), .ref (a 16), .ref (a 17)])), ((a 1), eI C 48 (Z 0)), ((a 2), eI C 24 (Z 1)), ((a 3), eZ C 12 (Z 2)), ((a 4), eZ C 12 (Z 3)), ((a 5), eI C 60 (Z 4)), ((a 6), eI C 60 (Z 5)), ((a 7), eI C 60 (Z 6)), ((a 8), eZ C 60 (Z 7)), ((a 9), eZ C 244 (upd (Z 8) ((4 * L) + k) 1)), ((a 10), eI C 24 (Z 9)), ((a 11), eJ C 9 (Y 0)), ((a 12), eJ C 9 (Y 1)), ((a 13), eJ C 3 (Y 2)), ((a 14), eJ C 3 (Y 3)), ((a 15), eJ C 12 (Y 4)), ((a 16), eI C 6 (Z 10)), ((a 17), eI C 4 (Z 11))] H := hP
    have hD : va_D A [((a 0), .inr (7, [.int (Z 12 0), .ref (a 1), .ref (a 2), .ref (a 3), .ref (a 4), .int (Z 12 1), .ref (a 5), .ref (a 6), .ref (a 7), .ref (a 8), .ref (a 9), .int (Z 12 2), .ref (a 10), .int (Z 12 3), .int (Z 12 4), .ref (a 11), .ref (a 12), .long (Y 5 0), .ref (a 13), .ref (a 14), .ref (a 15), .ref (a 16), .ref (a 17)])), ((a 1), eI C 48 (Z 0)), ((a 2), eI C 24 (Z 1)), ((a 3), eZ C 12 (Z 2)), ((a 4), eZ C 12 (Z 3)), ((a 5), eI C 60 (Z 4)), ((a 6), eI C 60 (Z 5)), ((a 7), eI C 60 (Z 6)), ((a 8), eZ C 60 (Z 7)), ((a 9), eZ C 244 (upd (Z 8) ((4 * L) + k) 1)), ((a 10), eI C 24 (Z 9)), ((a 11), eJ C 9 (Y 0)), ((a 12), eJ C 9 (Y 1)), ((a 13), eJ C 3 (Y 2)), ((a 14), eJ C 3 (Y 3)), ((a 15), eJ C 12 (Y 4)), ((a 16), eI C 6 (Z 10)), ((a 17), eI C 4 (Z 11))] := hD
    refine lv_iconst (v := 1) hx hb dX7_mend_24 (by decide) ?_
    have hb_0 : (f7_mend_Z Z L (nI k)) = uM Z 8 (upd (Z 8) ((4 * L) + k) 1) := (by simp only [f7_mend, f7_mend_Z, if_neg c_1, hix_k])
    have hP9 : va_P D vwCl ((wZ a C (f7_mend_Z Z L (nI k)) Y)) H := by rw [hb_0]; exact hP
    have hD9 : va_D A ((wZ a C (f7_mend_Z Z L (nI k)) Y)) := by rw [hb_0]; exact hD
    exact W.iret (v := 1) hx hb hr (fun t ht _ => ⟨⟨_, (), rfl, (by simp only [f7_mend, f7_mend_Z, if_neg c_1, hix_k]), ⟨by rw [ht]; exact hP9, by rw [hAe]; exact hD9⟩⟩, hS.F ht⟩) hS.2.2 dX7_mend_25
  · refine lv_ldc hx hb hown (hW _ (wa tw641 rfl)) dX7_mend_7 ?_
    have hb_0 : (f7_mend_Z Z L tool) = Z := (by simp only [f7_mend, f7_mend_Z, if_pos c_1])
    have hP9 : va_P D vwCl ((wZ a C (f7_mend_Z Z L tool) Y)) s.heap := by rw [hb_0]; exact hP
    have hD9 : va_D A ((wZ a C (f7_mend_Z Z L tool) Y)) := by rw [hb_0]; exact hD
    exact W.iret (v := (-100001)) hx hb hr (fun t ht _ => ⟨⟨_, (), rfl, (by simp only [f7_mend, f7_mend_Z, if_pos c_1]), ⟨by rw [ht]; exact hP9, by rw [hAe]; exact hD9⟩⟩, hS.F ht⟩) hS.2.2 dX7_mend_9

def f7_gain (Z : Nat → Nat → Int32) (v : Int32) : Int32 := (if (f7_in v.toInt64 1 16) = 0 then ((-100002)) else (Z 12 2))
def f7_gain_Z (Z : Nat → Nat → Int32) (v : Int32) : Nat → Nat → Int32 := (if (f7_in v.toInt64 1 16) = 0 then (Z) else (uM Z 12 (upd (Z 12) 2 v)))
set_option maxHeartbeats 4000000 in
set_option maxRecDepth 100000 in
theorem kX7_gain (l : Launch) (D : va_G) (C : Nat → ClassId) (a : Nat → Nat) (Z : Nat → Nat → Int32) (Y : Nat → Nat → Int64) (v : Int32) (sz : Nat)  : Wi l D C yX7_gain cX7_gain 3 .int 1 [.ref (a 0), .int v] (wZ a C Z Y) ((wZ a C (f7_gain_Z Z v) Y)) (f7_gain Z v) sz := by
  refine Met.ofW (cc := cX7_gain) (maxL := 3) (ret := (some .int)) (by decide) rfl ?_
  intro p e s m args below meth c s₁ B hml hv
  obtain ⟨rfl, hsz, hP, hK, hNw, hD0⟩ := hv
  have hx := B.exec
  have hb := B.bytes
  have hr := B.returns
  have hts := atoms_spec (ws := wm yX7_gain cX7_gain 3 (some .int)) B.pre
  have hown : s.vm.findClass RX7 = some m.cls := findClass_of_methodNamed B.named
  have hlocks := B.notSynchronized
  have hW : ∀ w ∈ WA, w.before _ s = true := fun w h => hts w (List.mem_cons_of_mem _ h)
  subst hsz
  have hD := hD0.self (sz := s.heap.size)
  generalize hAe : va_A (wZ a C Z Y) s.heap.size = A at hD ⊢
  have hA : ∀ q : Nat, s.heap.size ≤ q → A q := fun q h => by rw [← hAe]; exact Or.inr h
  have hS : va_S A s.heap s.heap [] := va_S.rf
  have hP : va_P D vwCl [((a 0), .inr (7, [.int (Z 12 0), .ref (a 1), .ref (a 2), .ref (a 3), .ref (a 4), .int (Z 12 1), .ref (a 5), .ref (a 6), .ref (a 7), .ref (a 8), .ref (a 9), .int (Z 12 2), .ref (a 10), .int (Z 12 3), .int (Z 12 4), .ref (a 11), .ref (a 12), .long (Y 5 0), .ref (a 13), .ref (a 14), .ref (a 15), .ref (a 16), .ref (a 17)])), ((a 1), eI C 48 (Z 0)), ((a 2), eI C 24 (Z 1)), ((a 3), eZ C 12 (Z 2)), ((a 4), eZ C 12 (Z 3)), ((a 5), eI C 60 (Z 4)), ((a 6), eI C 60 (Z 5)), ((a 7), eI C 60 (Z 6)), ((a 8), eZ C 60 (Z 7)), ((a 9), eZ C 244 (Z 8)), ((a 10), eI C 24 (Z 9)), ((a 11), eJ C 9 (Y 0)), ((a 12), eJ C 9 (Y 1)), ((a 13), eJ C 3 (Y 2)), ((a 14), eJ C 3 (Y 3)), ((a 15), eJ C 12 (Y 4)), ((a 16), eI C 6 (Z 10)), ((a 17), eI C 4 (Z 11))] s.heap := hP
  have hD : va_D A [((a 0), .inr (7, [.int (Z 12 0), .ref (a 1), .ref (a 2), .ref (a 3), .ref (a 4), .int (Z 12 1), .ref (a 5), .ref (a 6), .ref (a 7), .ref (a 8), .ref (a 9), .int (Z 12 2), .ref (a 10), .int (Z 12 3), .int (Z 12 4), .ref (a 11), .ref (a 12), .long (Y 5 0), .ref (a 13), .ref (a 14), .ref (a 15), .ref (a 16), .ref (a 17)])), ((a 1), eI C 48 (Z 0)), ((a 2), eI C 24 (Z 1)), ((a 3), eZ C 12 (Z 2)), ((a 4), eZ C 12 (Z 3)), ((a 5), eI C 60 (Z 4)), ((a 6), eI C 60 (Z 5)), ((a 7), eI C 60 (Z 6)), ((a 8), eZ C 60 (Z 7)), ((a 9), eZ C 244 (Z 8)), ((a 10), eI C 24 (Z 9)), ((a 11), eJ C 9 (Y 0)), ((a 12), eJ C 9 (Y 1)), ((a 13), eJ C 3 (Y 2)), ((a 14), eJ C 3 (Y 3)), ((a 15), eJ C 12 (Y 4)), ((a 16), eI C 6 (Z 10)), ((a 17), eI C 4 (Z 11))] := hD
  have hl := lv_entry ([.ref (a 0), .int v]) (n := 3) (Nat.le_of_ble_eq_true rfl)
  rw [lg_entry_eq]
  generalize (lg_sl ([.ref (a 0), .int v]) ++ List.replicate (3 - (lg_sl ([.ref (a 0), .int v])).length) Slot.unset).toArray = ls at hl ⊢
  have hl : lv_has ls 3 [(0, .ref (a 0)), (1, .int v)] := hl
  refine lv_iload_n hx hb dX7_gain_0 rfl (lv_at hl 1 rfl) ?_
  refine lv_i2l (v := v.toInt64) hx hb dX7_gain_1 rfl ?_
  refine lv_lconst (v := 1) hx hb dX7_gain_2 (by decide) ?_
  refine lv_ldc2 hx hb hown (hW _ (wa tw767 rfl)) dX7_gain_3 ?_
  refine xri (r := f7_in v.toInt64 1 16) (rS (As := [.long v.toInt64, .long 1, .long 16]) (n := 3) (rest := []) ⟨hx, hb, hml, hown, hW⟩ (kX7_in l v.toInt64 1 16) (wa tw628 rfl) (wa tw626 rfl) (wa tw627 rfl) (wa tw8 rfl) (by decide +kernel) ⟨Nat.le_of_ble_eq_true rfl, Nat.le_of_ble_eq_true rfl⟩ pS0 hl.1 rfl (Nat.le_of_ble_eq_true rfl) dX7_gain_6 ⟨Nat.le_of_ble_eq_true rfl, Nat.le_of_ble_eq_true rfl⟩ rfl rfl rfl) ?_
  refine lv_if_ne (tgt := 15) hx hb dX7_gain_9 (by decide) (fun c_1 => ?_) (fun c_1 => ?_)
  · refine lv_aload_n hx hb dX7_gain_15 rfl (lv_at hl 0 rfl) ?_
    refine va_get (D := D) (ci := 7) (C := RX7) (T := TX7) (N := 23) hx hb hW inX7 hown hK hP 0 rfl rfl 11 (by decide) (hW _ (wa tw561 rfl)) (fun _ h9 => h9) rfl dX7_gain_16 ?_
    refine lv_istore_n (lv' := [(2, .int (Z 12 2)), (0, .ref (a 0)), (1, .int v)]) hx hb dX7_gain_19 rfl hl (by decide) rfl (fun ls hl => ?_)
    refine lv_aload_n hx hb dX7_gain_20 rfl (lv_at hl 1 rfl) ?_
    refine lv_iload_n hx hb dX7_gain_21 rfl (lv_at hl 2 rfl) ?_
    refine va_put (D := D) (v := .int v) (ty := .int) (ci := 7) (C := RX7) (T := TX7) (N := 23) hx hb hW inX7 tyX7 tyX7_ok nmX7 hown hK hP hD hS 0 rfl rfl 11 (by decide) (hW _ (wa tw561 rfl)) (fun _ h9 => h9) rfl (by decide +kernel) rfl rfl (Nat.le_of_ble_eq_true rfl) dX7_gain_22 (fun H locs hP hD hS => ?_)
    have hP : va_P D vwCl [((a 0), .inr (7, [.int (Z 12 0), .ref (a 1), .ref (a 2), .ref (a 3), .ref (a 4), .int (Z 12 1), .ref (a 5), .ref (a 6), .ref (a 7), .ref (a 8), .ref (a 9), .int v, .ref (a 10), .int (Z 12 3), .int (Z 12 4), .ref (a 11), .ref (a 12), .long (Y 5 0), .ref (a 13), .ref (a 14), .ref (a 15), .ref (a 16), .ref (a 17)])), ((a 1), eI C 48 (Z 0)), ((a 2), eI C 24 (Z 1)), ((a 3), eZ C 12 (Z 2)), ((a 4), eZ C 12 (Z 3)), ((a 5), eI C 60 (Z 4)), ((a 6), eI C 60 (Z 5)), ((a 7), eI C 60 (Z 6)), ((a 8), eZ C 60 (Z 7)), ((a 9), eZ C 244 (Z 8)), ((a 10), eI C 24 (Z 9)), ((a 11), eJ C 9 (Y 0)), ((a 12), eJ C 9 (Y 1)), ((a 13), eJ C 3 (Y 2)), ((a 14), eJ C 3 (Y 3)), ((a 15), eJ C 12 (Y 4)), ((a 16), eI C 6 (Z 10)), ((a 17), eI C 4 (Z 11))] H := hP
    have hD : va_D A [((a 0), .inr (7, [.int (Z 12 0), .ref (a 1), .ref (a 2), .ref (a 3), .ref (a 4), .int (Z 12 1), .ref (a 5), .ref (a 6), .ref (a 7), .ref (a 8), .ref (a 9), .int v, .ref (a 10), .int (Z 12 3), .int (Z 12 4), .ref (a 11), .ref (a 12), .long (Y 5 0), .ref (a 13), .ref (a 14), .ref (a 15), .ref (a 16), .ref (a 17)])), ((a 1), eI C 48 (Z 0)), ((a 2), eI C 24 (Z 1)), ((a 3), eZ C 12 (Z 2)), ((a 4), eZ C 12 (Z 3)), ((a 5), eI C 60 (Z 4)), ((a 6), eI C 60 (Z 5)), ((a 7), eI C 60 (Z 6)), ((a 8), eZ C 60 (Z 7)), ((a 9), eZ C 244 (Z 8)), ((a 10), eI C 24 (Z 9)), ((a 11), eJ C 9 (Y 0)), ((a 12), eJ C 9 (Y 1)), ((a 13), eJ C 3 (Y 2)), ((a 14), eJ C 3 (Y 3)), ((a 15), eJ C 12 (Y 4)), ((a 16), eI C 6 (Z 10)), ((a 17), eI C 4 (Z 11))] := hD
    refine lv_iload_n hx hb dX7_gain_25 rfl (lv_at hl 0 rfl) ?_
    have hb_0 : (f7_gain_Z Z v) = uM Z 12 (upd (Z 12) 2 v) := (by simp only [f7_gain, f7_gain_Z, if_neg c_1])
    have hP9 : va_P D vwCl ((wZ a C (f7_gain_Z Z v) Y)) H := by rw [hb_0]; exact hP
    have hD9 : va_D A ((wZ a C (f7_gain_Z Z v) Y)) := by rw [hb_0]; exact hD
    exact W.iret (v := Z 12 2) hx hb hr (fun t ht _ => ⟨⟨_, (), rfl, (by simp only [f7_gain, f7_gain_Z, if_neg c_1]), ⟨by rw [ht]; exact hP9, by rw [hAe]; exact hD9⟩⟩, hS.F ht⟩) hS.2.2 dX7_gain_26
  · refine lv_ldc hx hb hown (hW _ (wa tw631 rfl)) dX7_gain_12 ?_
    have hb_0 : (f7_gain_Z Z v) = Z := (by simp only [f7_gain, f7_gain_Z, if_pos c_1])
    have hP9 : va_P D vwCl ((wZ a C (f7_gain_Z Z v) Y)) s.heap := by rw [hb_0]; exact hP
    have hD9 : va_D A ((wZ a C (f7_gain_Z Z v) Y)) := by rw [hb_0]; exact hD
    exact W.iret (v := (-100002)) hx hb hr (fun t ht _ => ⟨⟨_, (), rfl, (by simp only [f7_gain, f7_gain_Z, if_pos c_1]), ⟨by rw [ht]; exact hP9, by rw [hAe]; exact hD9⟩⟩, hS.F ht⟩) hS.2.2 dX7_gain_14

def f7_offset (Z : Nat → Nat → Int32) (tool layer v : Int32) : Int32 := (if (f7_isTool tool) = 0 then ((-100001)) else (if (f7_in layer.toInt64 0 5) = 0 then ((-100002)) else (if (f7_in v.toInt64 (-999) 999) = 0 then ((-100002)) else ((Z 9) ((6 * (ix tool)) + (ix layer))))))
def f7_offset_Z (Z : Nat → Nat → Int32) (tool layer v : Int32) : Nat → Nat → Int32 := (if (f7_isTool tool) = 0 then (Z) else (if (f7_in layer.toInt64 0 5) = 0 then (Z) else (if (f7_in v.toInt64 (-999) 999) = 0 then (Z) else (uM Z 9 (upd (Z 9) ((6 * (ix tool)) + (ix layer)) v)))))
set_option maxHeartbeats 4000000 in
set_option maxRecDepth 100000 in
theorem kX7_offset (l : Launch) (D : va_G) (C : Nat → ClassId) (a : Nat → Nat) (Z : Nat → Nat → Int32) (Y : Nat → Nat → Int64) (tool layer v : Int32) (sz : Nat)  : Wi l D C yX7_offset cX7_offset 5 .int 2 [.ref (a 0), .int tool, .int layer, .int v] (wZ a C Z Y) ((wZ a C (f7_offset_Z Z tool layer v) Y)) (f7_offset Z tool layer v) sz := by
  refine Met.ofW (cc := cX7_offset) (maxL := 5) (ret := (some .int)) (by decide) rfl ?_
  intro p e s m args below meth c s₁ B hml hv
  obtain ⟨rfl, hsz, hP, hK, hNw, hD0⟩ := hv
  have hx := B.exec
  have hb := B.bytes
  have hr := B.returns
  have hts := atoms_spec (ws := wm yX7_offset cX7_offset 5 (some .int)) B.pre
  have hown : s.vm.findClass RX7 = some m.cls := findClass_of_methodNamed B.named
  have hlocks := B.notSynchronized
  have hW : ∀ w ∈ WA, w.before _ s = true := fun w h => hts w (List.mem_cons_of_mem _ h)
  subst hsz
  have hD := hD0.self (sz := s.heap.size)
  generalize hAe : va_A (wZ a C Z Y) s.heap.size = A at hD ⊢
  have hA : ∀ q : Nat, s.heap.size ≤ q → A q := fun q h => by rw [← hAe]; exact Or.inr h
  have hS : va_S A s.heap s.heap [] := va_S.rf
  have hP : va_P D vwCl [((a 0), .inr (7, [.int (Z 12 0), .ref (a 1), .ref (a 2), .ref (a 3), .ref (a 4), .int (Z 12 1), .ref (a 5), .ref (a 6), .ref (a 7), .ref (a 8), .ref (a 9), .int (Z 12 2), .ref (a 10), .int (Z 12 3), .int (Z 12 4), .ref (a 11), .ref (a 12), .long (Y 5 0), .ref (a 13), .ref (a 14), .ref (a 15), .ref (a 16), .ref (a 17)])), ((a 1), eI C 48 (Z 0)), ((a 2), eI C 24 (Z 1)), ((a 3), eZ C 12 (Z 2)), ((a 4), eZ C 12 (Z 3)), ((a 5), eI C 60 (Z 4)), ((a 6), eI C 60 (Z 5)), ((a 7), eI C 60 (Z 6)), ((a 8), eZ C 60 (Z 7)), ((a 9), eZ C 244 (Z 8)), ((a 10), eI C 24 (Z 9)), ((a 11), eJ C 9 (Y 0)), ((a 12), eJ C 9 (Y 1)), ((a 13), eJ C 3 (Y 2)), ((a 14), eJ C 3 (Y 3)), ((a 15), eJ C 12 (Y 4)), ((a 16), eI C 6 (Z 10)), ((a 17), eI C 4 (Z 11))] s.heap := hP
  have hD : va_D A [((a 0), .inr (7, [.int (Z 12 0), .ref (a 1), .ref (a 2), .ref (a 3), .ref (a 4), .int (Z 12 1), .ref (a 5), .ref (a 6), .ref (a 7), .ref (a 8), .ref (a 9), .int (Z 12 2), .ref (a 10), .int (Z 12 3), .int (Z 12 4), .ref (a 11), .ref (a 12), .long (Y 5 0), .ref (a 13), .ref (a 14), .ref (a 15), .ref (a 16), .ref (a 17)])), ((a 1), eI C 48 (Z 0)), ((a 2), eI C 24 (Z 1)), ((a 3), eZ C 12 (Z 2)), ((a 4), eZ C 12 (Z 3)), ((a 5), eI C 60 (Z 4)), ((a 6), eI C 60 (Z 5)), ((a 7), eI C 60 (Z 6)), ((a 8), eZ C 60 (Z 7)), ((a 9), eZ C 244 (Z 8)), ((a 10), eI C 24 (Z 9)), ((a 11), eJ C 9 (Y 0)), ((a 12), eJ C 9 (Y 1)), ((a 13), eJ C 3 (Y 2)), ((a 14), eJ C 3 (Y 3)), ((a 15), eJ C 12 (Y 4)), ((a 16), eI C 6 (Z 10)), ((a 17), eI C 4 (Z 11))] := hD
  have hl := lv_entry ([.ref (a 0), .int tool, .int layer, .int v]) (n := 5) (Nat.le_of_ble_eq_true rfl)
  rw [lg_entry_eq]
  generalize (lg_sl ([.ref (a 0), .int tool, .int layer, .int v]) ++ List.replicate (5 - (lg_sl ([.ref (a 0), .int tool, .int layer, .int v])).length) Slot.unset).toArray = ls at hl ⊢
  have hl : lv_has ls 5 [(0, .ref (a 0)), (1, .int tool), (2, .int layer), (3, .int v)] := hl
  refine lv_iload_n hx hb dX7_offset_0 rfl (lv_at hl 1 rfl) ?_
  refine xri (r := f7_isTool tool) (rS (As := [.int tool]) (n := 1) (rest := []) ⟨hx, hb, hml, hown, hW⟩ (kX7_isTool l tool) (wa tw752 rfl) (wa tw750 rfl) (wa tw751 rfl) (wa tw8 rfl) (by decide +kernel) ⟨Nat.le_of_ble_eq_true rfl, Nat.le_of_ble_eq_true rfl⟩ pS0 hl.1 rfl (Nat.le_of_ble_eq_true rfl) dX7_offset_1 ⟨Nat.le_of_ble_eq_true rfl, Nat.le_of_ble_eq_true rfl⟩ rfl rfl rfl) ?_
  refine lv_if_ne (tgt := 10) hx hb dX7_offset_4 (by decide) (fun c_1 => ?_) (fun c_1 => ?_)
  · obtain ⟨k, hk, rfl⟩ := q_isTool c_1
    have hix_k : ix (nI k) = k := ix_nI (by omega)
    refine lv_iload_n hx hb dX7_offset_10 rfl (lv_at hl 2 rfl) ?_
    refine lv_i2l (v := layer.toInt64) hx hb dX7_offset_11 rfl ?_
    refine lv_lconst (v := 0) hx hb dX7_offset_12 (by decide) ?_
    refine lv_ldc2 hx hb hown (hW _ (wa tw625 rfl)) dX7_offset_13 ?_
    refine xri (r := f7_in layer.toInt64 0 5) (rS (As := [.long layer.toInt64, .long 0, .long 5]) (n := 3) (rest := []) ⟨hx, hb, hml, hown, hW⟩ (kX7_in l layer.toInt64 0 5) (wa tw628 rfl) (wa tw626 rfl) (wa tw627 rfl) (wa tw8 rfl) (by decide +kernel) ⟨Nat.le_of_ble_eq_true rfl, Nat.le_of_ble_eq_true rfl⟩ pS0 hl.1 rfl (Nat.le_of_ble_eq_true rfl) dX7_offset_16 ⟨Nat.le_of_ble_eq_true rfl, Nat.le_of_ble_eq_true rfl⟩ rfl rfl rfl) ?_
    refine lv_if_eq (tgt := 36) hx hb dX7_offset_19 (by decide) (fun c_2 => ?_) (fun c_2 => ?_)
    · refine lv_ldc hx hb hown (hW _ (wa tw631 rfl)) dX7_offset_36 ?_
      have hb_0 : (f7_offset_Z Z (nI k) layer v) = Z := (by simp only [f7_offset, f7_offset_Z, if_neg c_1, if_pos c_2, hix_k])
      have hP9 : va_P D vwCl ((wZ a C (f7_offset_Z Z (nI k) layer v) Y)) s.heap := by rw [hb_0]; exact hP
      have hD9 : va_D A ((wZ a C (f7_offset_Z Z (nI k) layer v) Y)) := by rw [hb_0]; exact hD
      exact W.iret (v := (-100002)) hx hb hr (fun t ht _ => ⟨⟨_, (), rfl, (by simp only [f7_offset, f7_offset_Z, if_neg c_1, if_pos c_2, hix_k]), ⟨by rw [ht]; exact hP9, by rw [hAe]; exact hD9⟩⟩, hS.F ht⟩) hS.2.2 dX7_offset_38
    · obtain ⟨w, hw, rfl⟩ := q_inC (n := 6) rfl (by decide) c_2
      have hix_w : ix (nI w) = w := ix_nI (by omega)
      refine lv_iload_n hx hb dX7_offset_22 rfl (lv_at hl 3 rfl) ?_
      refine lv_i2l (v := v.toInt64) hx hb dX7_offset_23 rfl ?_
      refine lv_ldc2 hx hb hown (hW _ (wa tw642 rfl)) dX7_offset_24 ?_
      refine lv_ldc2 hx hb hown (hW _ (wa tw643 rfl)) dX7_offset_27 ?_
      refine xri (r := f7_in v.toInt64 (-999) 999) (rS (As := [.long v.toInt64, .long (-999), .long 999]) (n := 3) (rest := []) ⟨hx, hb, hml, hown, hW⟩ (kX7_in l v.toInt64 (-999) 999) (wa tw628 rfl) (wa tw626 rfl) (wa tw627 rfl) (wa tw8 rfl) (by decide +kernel) ⟨Nat.le_of_ble_eq_true rfl, Nat.le_of_ble_eq_true rfl⟩ pS0 hl.1 rfl (Nat.le_of_ble_eq_true rfl) dX7_offset_30 ⟨Nat.le_of_ble_eq_true rfl, Nat.le_of_ble_eq_true rfl⟩ rfl rfl rfl) ?_
      refine lv_if_ne (tgt := 39) hx hb dX7_offset_33 (by decide) (fun c_3 => ?_) (fun c_3 => ?_)
      · refine lv_aload_n hx hb dX7_offset_39 rfl (lv_at hl 0 rfl) ?_
        refine va_get (D := D) (ci := 7) (C := RX7) (T := TX7) (N := 23) hx hb hW inX7 hown hK hP 0 rfl rfl 12 (by decide) (hW _ (wa tw562 rfl)) (fun _ h9 => h9) rfl dX7_offset_40 ?_
        refine lv_bipush (v := 6) hx hb dX7_offset_43 (by decide) ?_
        refine lv_iload_n hx hb dX7_offset_45 rfl (lv_at hl 1 rfl) ?_
        refine lv_imul hx hb dX7_offset_46 ?_
        refine lv_iload_n hx hb dX7_offset_47 rfl (lv_at hl 2 rfl) ?_
        refine lv_iadd hx hb dX7_offset_48 ?_
        refine xiald hx hb hK hP 10 rfl ((6 * k) + w) (q_add (q_mul (nI_lit 6) rfl) rfl) (by omega) (by decide) dX7_offset_49 ?_
        refine lv_istore (lv' := [(4, .int ((Z 9) ((6 * k) + w))), (0, .ref (a 0)), (1, .int (nI k)), (2, .int (nI w)), (3, .int v)]) hx hb dX7_offset_50 hl (by decide) rfl (fun ls hl => ?_)
        refine lv_aload_n hx hb dX7_offset_52 rfl (lv_at hl 1 rfl) ?_
        refine va_get (D := D) (ci := 7) (C := RX7) (T := TX7) (N := 23) hx hb hW inX7 hown hK hP 0 rfl rfl 12 (by decide) (hW _ (wa tw562 rfl)) (fun _ h9 => h9) rfl dX7_offset_53 ?_
        refine lv_bipush (v := 6) hx hb dX7_offset_56 (by decide) ?_
        refine lv_iload_n hx hb dX7_offset_58 rfl (lv_at hl 2 rfl) ?_
        refine lv_imul hx hb dX7_offset_59 ?_
        refine lv_iload_n hx hb dX7_offset_60 rfl (lv_at hl 3 rfl) ?_
        refine lv_iadd hx hb dX7_offset_61 ?_
        refine lv_iload_n hx hb dX7_offset_62 rfl (lv_at hl 4 rfl) ?_
        refine xiast hx hb hK hP hD hS 10 rfl ((6 * k) + w) (q_add (q_mul (nI_lit 6) rfl) rfl) (by omega) (by decide) dX7_offset_63 (fun H locs hP hD hS => ?_)
        have hP : va_P D vwCl [((a 0), .inr (7, [.int (Z 12 0), .ref (a 1), .ref (a 2), .ref (a 3), .ref (a 4), .int (Z 12 1), .ref (a 5), .ref (a 6), .ref (a 7), .ref (a 8), .ref (a 9), .int (Z 12 2), .ref (a 10), .int (Z 12 3), .int (Z 12 4), .ref (a 11), .ref (a 12), .long (Y 5 0), .ref (a 13), .ref (a 14), .ref (a 15), .ref (a 16), .ref (a 17)])), ((a 1), eI C 48 (Z 0)), ((a 2), eI C 24 (Z 1)), ((a 3), eZ C 12 (Z 2)), ((a 4), eZ C 12 (Z 3)), ((a 5), eI C 60 (Z 4)), ((a 6), eI C 60 (Z 5)), ((a 7), eI C 60 (Z 6)), ((a 8), eZ C 60 (Z 7)), ((a 9), eZ C 244 (Z 8)), ((a 10), eI C 24 (upd (Z 9) ((6 * k) + w) v)), ((a 11), eJ C 9 (Y 0)), ((a 12), eJ C 9 (Y 1)), ((a 13), eJ C 3 (Y 2)), ((a 14), eJ C 3 (Y 3)), ((a 15), eJ C 12 (Y 4)), ((a 16), eI C 6 (Z 10)), ((a 17), eI C 4 (Z 11))] H := hP
        have hD : va_D A [((a 0), .inr (7, [.int (Z 12 0), .ref (a 1), .ref (a 2), .ref (a 3), .ref (a 4), .int (Z 12 1), .ref (a 5), .ref (a 6), .ref (a 7), .ref (a 8), .ref (a 9), .int (Z 12 2), .ref (a 10), .int (Z 12 3), .int (Z 12 4), .ref (a 11), .ref (a 12), .long (Y 5 0), .ref (a 13), .ref (a 14), .ref (a 15), .ref (a 16), .ref (a 17)])), ((a 1), eI C 48 (Z 0)), ((a 2), eI C 24 (Z 1)), ((a 3), eZ C 12 (Z 2)), ((a 4), eZ C 12 (Z 3)), ((a 5), eI C 60 (Z 4)), ((a 6), eI C 60 (Z 5)), ((a 7), eI C 60 (Z 6)), ((a 8), eZ C 60 (Z 7)), ((a 9), eZ C 244 (Z 8)), ((a 10), eI C 24 (upd (Z 9) ((6 * k) + w) v)), ((a 11), eJ C 9 (Y 0)), ((a 12), eJ C 9 (Y 1)), ((a 13), eJ C 3 (Y 2)), ((a 14), eJ C 3 (Y 3)), ((a 15), eJ C 12 (Y 4)), ((a 16), eI C 6 (Z 10)), ((a 17), eI C 4 (Z 11))] := hD
        refine lv_iload hx hb dX7_offset_64 (lv_at hl 0 rfl) ?_
        have hb_0 : (f7_offset_Z Z (nI k) (nI w) v) = uM Z 9 (upd (Z 9) ((6 * k) + w) v) := (by simp only [f7_offset, f7_offset_Z, if_neg c_1, if_neg c_2, if_neg c_3, hix_k, hix_w])
        have hP9 : va_P D vwCl ((wZ a C (f7_offset_Z Z (nI k) (nI w) v) Y)) H := by rw [hb_0]; exact hP
        have hD9 : va_D A ((wZ a C (f7_offset_Z Z (nI k) (nI w) v) Y)) := by rw [hb_0]; exact hD
        exact W.iret (v := (Z 9) ((6 * k) + w)) hx hb hr (fun t ht _ => ⟨⟨_, (), rfl, (by simp only [f7_offset, f7_offset_Z, if_neg c_1, if_neg c_2, if_neg c_3, hix_k, hix_w]), ⟨by rw [ht]; exact hP9, by rw [hAe]; exact hD9⟩⟩, hS.F ht⟩) hS.2.2 dX7_offset_66
      · refine lv_ldc hx hb hown (hW _ (wa tw631 rfl)) dX7_offset_36 ?_
        have hb_0 : (f7_offset_Z Z (nI k) (nI w) v) = Z := (by simp only [f7_offset, f7_offset_Z, if_neg c_1, if_neg c_2, if_pos c_3, hix_k, hix_w])
        have hP9 : va_P D vwCl ((wZ a C (f7_offset_Z Z (nI k) (nI w) v) Y)) s.heap := by rw [hb_0]; exact hP
        have hD9 : va_D A ((wZ a C (f7_offset_Z Z (nI k) (nI w) v) Y)) := by rw [hb_0]; exact hD
        exact W.iret (v := (-100002)) hx hb hr (fun t ht _ => ⟨⟨_, (), rfl, (by simp only [f7_offset, f7_offset_Z, if_neg c_1, if_neg c_2, if_pos c_3, hix_k, hix_w]), ⟨by rw [ht]; exact hP9, by rw [hAe]; exact hD9⟩⟩, hS.F ht⟩) hS.2.2 dX7_offset_38
  · refine lv_ldc hx hb hown (hW _ (wa tw641 rfl)) dX7_offset_7 ?_
    have hb_0 : (f7_offset_Z Z tool layer v) = Z := (by simp only [f7_offset, f7_offset_Z, if_pos c_1])
    have hP9 : va_P D vwCl ((wZ a C (f7_offset_Z Z tool layer v) Y)) s.heap := by rw [hb_0]; exact hP
    have hD9 : va_D A ((wZ a C (f7_offset_Z Z tool layer v) Y)) := by rw [hb_0]; exact hD
    exact W.iret (v := (-100001)) hx hb hr (fun t ht _ => ⟨⟨_, (), rfl, (by simp only [f7_offset, f7_offset_Z, if_pos c_1]), ⟨by rw [ht]; exact hP9, by rw [hAe]; exact hD9⟩⟩, hS.F ht⟩) hS.2.2 dX7_offset_9

def f7_rule (Z : Nat → Nat → Int32) (what v : Int32) : Int32 := (if (f7_in what.toInt64 0 1) = 0 then ((-100002)) else (if what = 0 then (if (f7_in v.toInt64 what.toInt64 1998) = 0 then ((-100002)) else (Z 12 3)) else (if (f7_in v.toInt64 what.toInt64 6) = 0 then ((-100002)) else (Z 12 4))))
def f7_rule_Z (Z : Nat → Nat → Int32) (what v : Int32) : Nat → Nat → Int32 := (if (f7_in what.toInt64 0 1) = 0 then (Z) else (if what = 0 then (if (f7_in v.toInt64 what.toInt64 1998) = 0 then (Z) else (uM Z 12 (upd (Z 12) 3 v))) else (if (f7_in v.toInt64 what.toInt64 6) = 0 then (Z) else (if what = 1 then (uM Z 12 (upd (Z 12) 4 v)) else (Z)))))
set_option maxHeartbeats 4000000 in
set_option maxRecDepth 100000 in
theorem kX7_rule (l : Launch) (D : va_G) (C : Nat → ClassId) (a : Nat → Nat) (Z : Nat → Nat → Int32) (Y : Nat → Nat → Int64) (what v : Int32) (sz : Nat)  : Wi l D C yX7_rule cX7_rule 4 .int 1 [.ref (a 0), .int what, .int v] (wZ a C Z Y) ((wZ a C (f7_rule_Z Z what v) Y)) (f7_rule Z what v) sz := by
  refine Met.ofW (cc := cX7_rule) (maxL := 4) (ret := (some .int)) (by decide) rfl ?_
  intro p e s m args below meth c s₁ B hml hv
  obtain ⟨rfl, hsz, hP, hK, hNw, hD0⟩ := hv
  have hx := B.exec
  have hb := B.bytes
  have hr := B.returns
  have hts := atoms_spec (ws := wm yX7_rule cX7_rule 4 (some .int)) B.pre
  have hown : s.vm.findClass RX7 = some m.cls := findClass_of_methodNamed B.named
  have hlocks := B.notSynchronized
  have hW : ∀ w ∈ WA, w.before _ s = true := fun w h => hts w (List.mem_cons_of_mem _ h)
  subst hsz
  have hD := hD0.self (sz := s.heap.size)
  generalize hAe : va_A (wZ a C Z Y) s.heap.size = A at hD ⊢
  have hA : ∀ q : Nat, s.heap.size ≤ q → A q := fun q h => by rw [← hAe]; exact Or.inr h
  have hS : va_S A s.heap s.heap [] := va_S.rf
  have hP : va_P D vwCl [((a 0), .inr (7, [.int (Z 12 0), .ref (a 1), .ref (a 2), .ref (a 3), .ref (a 4), .int (Z 12 1), .ref (a 5), .ref (a 6), .ref (a 7), .ref (a 8), .ref (a 9), .int (Z 12 2), .ref (a 10), .int (Z 12 3), .int (Z 12 4), .ref (a 11), .ref (a 12), .long (Y 5 0), .ref (a 13), .ref (a 14), .ref (a 15), .ref (a 16), .ref (a 17)])), ((a 1), eI C 48 (Z 0)), ((a 2), eI C 24 (Z 1)), ((a 3), eZ C 12 (Z 2)), ((a 4), eZ C 12 (Z 3)), ((a 5), eI C 60 (Z 4)), ((a 6), eI C 60 (Z 5)), ((a 7), eI C 60 (Z 6)), ((a 8), eZ C 60 (Z 7)), ((a 9), eZ C 244 (Z 8)), ((a 10), eI C 24 (Z 9)), ((a 11), eJ C 9 (Y 0)), ((a 12), eJ C 9 (Y 1)), ((a 13), eJ C 3 (Y 2)), ((a 14), eJ C 3 (Y 3)), ((a 15), eJ C 12 (Y 4)), ((a 16), eI C 6 (Z 10)), ((a 17), eI C 4 (Z 11))] s.heap := hP
  have hD : va_D A [((a 0), .inr (7, [.int (Z 12 0), .ref (a 1), .ref (a 2), .ref (a 3), .ref (a 4), .int (Z 12 1), .ref (a 5), .ref (a 6), .ref (a 7), .ref (a 8), .ref (a 9), .int (Z 12 2), .ref (a 10), .int (Z 12 3), .int (Z 12 4), .ref (a 11), .ref (a 12), .long (Y 5 0), .ref (a 13), .ref (a 14), .ref (a 15), .ref (a 16), .ref (a 17)])), ((a 1), eI C 48 (Z 0)), ((a 2), eI C 24 (Z 1)), ((a 3), eZ C 12 (Z 2)), ((a 4), eZ C 12 (Z 3)), ((a 5), eI C 60 (Z 4)), ((a 6), eI C 60 (Z 5)), ((a 7), eI C 60 (Z 6)), ((a 8), eZ C 60 (Z 7)), ((a 9), eZ C 244 (Z 8)), ((a 10), eI C 24 (Z 9)), ((a 11), eJ C 9 (Y 0)), ((a 12), eJ C 9 (Y 1)), ((a 13), eJ C 3 (Y 2)), ((a 14), eJ C 3 (Y 3)), ((a 15), eJ C 12 (Y 4)), ((a 16), eI C 6 (Z 10)), ((a 17), eI C 4 (Z 11))] := hD
  have hl := lv_entry ([.ref (a 0), .int what, .int v]) (n := 4) (Nat.le_of_ble_eq_true rfl)
  rw [lg_entry_eq]
  generalize (lg_sl ([.ref (a 0), .int what, .int v]) ++ List.replicate (4 - (lg_sl ([.ref (a 0), .int what, .int v])).length) Slot.unset).toArray = ls at hl ⊢
  have hl : lv_has ls 4 [(0, .ref (a 0)), (1, .int what), (2, .int v)] := hl
  refine lv_iload_n hx hb dX7_rule_0 rfl (lv_at hl 1 rfl) ?_
  refine lv_i2l (v := what.toInt64) hx hb dX7_rule_1 rfl ?_
  refine lv_lconst (v := 0) hx hb dX7_rule_2 (by decide) ?_
  refine lv_lconst (v := 1) hx hb dX7_rule_3 (by decide) ?_
  refine xri (r := f7_in what.toInt64 0 1) (rS (As := [.long what.toInt64, .long 0, .long 1]) (n := 3) (rest := []) ⟨hx, hb, hml, hown, hW⟩ (kX7_in l what.toInt64 0 1) (wa tw628 rfl) (wa tw626 rfl) (wa tw627 rfl) (wa tw8 rfl) (by decide +kernel) ⟨Nat.le_of_ble_eq_true rfl, Nat.le_of_ble_eq_true rfl⟩ pS0 hl.1 rfl (Nat.le_of_ble_eq_true rfl) dX7_rule_4 ⟨Nat.le_of_ble_eq_true rfl, Nat.le_of_ble_eq_true rfl⟩ rfl rfl rfl) ?_
  refine lv_if_eq (tgt := 33) hx hb dX7_rule_7 (by decide) (fun c_1 => ?_) (fun c_1 => ?_)
  · refine lv_ldc hx hb hown (hW _ (wa tw631 rfl)) dX7_rule_33 ?_
    have hb_0 : (f7_rule_Z Z what v) = Z := (by simp only [f7_rule, f7_rule_Z, if_pos c_1])
    have hP9 : va_P D vwCl ((wZ a C (f7_rule_Z Z what v) Y)) s.heap := by rw [hb_0]; exact hP
    have hD9 : va_D A ((wZ a C (f7_rule_Z Z what v) Y)) := by rw [hb_0]; exact hD
    exact W.iret (v := (-100002)) hx hb hr (fun t ht _ => ⟨⟨_, (), rfl, (by simp only [f7_rule, f7_rule_Z, if_pos c_1]), ⟨by rw [ht]; exact hP9, by rw [hAe]; exact hD9⟩⟩, hS.F ht⟩) hS.2.2 dX7_rule_35
  · refine lv_iload_n hx hb dX7_rule_10 rfl (lv_at hl 2 rfl) ?_
    refine lv_i2l (v := v.toInt64) hx hb dX7_rule_11 rfl ?_
    refine lv_iload_n hx hb dX7_rule_12 rfl (lv_at hl 1 rfl) ?_
    refine lv_i2l (v := what.toInt64) hx hb dX7_rule_13 rfl ?_
    refine lv_iload_n hx hb dX7_rule_14 rfl (lv_at hl 1 rfl) ?_
    refine lv_if_ne (tgt := 24) hx hb dX7_rule_15 (by decide) (fun c_2 => ?_) (fun c_2 => ?_)
    · refine lv_ldc2 hx hb hown (hW _ (wa tw738 rfl)) dX7_rule_24 ?_
      refine xri (r := f7_in v.toInt64 what.toInt64 6) (rS (As := [.long v.toInt64, .long what.toInt64, .long 6]) (n := 3) (rest := []) ⟨hx, hb, hml, hown, hW⟩ (kX7_in l v.toInt64 what.toInt64 6) (wa tw628 rfl) (wa tw626 rfl) (wa tw627 rfl) (wa tw8 rfl) (by decide +kernel) ⟨Nat.le_of_ble_eq_true rfl, Nat.le_of_ble_eq_true rfl⟩ pS0 hl.1 rfl (Nat.le_of_ble_eq_true rfl) dX7_rule_27 ⟨Nat.le_of_ble_eq_true rfl, Nat.le_of_ble_eq_true rfl⟩ rfl rfl rfl) ?_
      refine lv_if_ne (tgt := 36) hx hb dX7_rule_30 (by decide) (fun c_3 => ?_) (fun c_3 => ?_)
      · refine lv_iload_n hx hb dX7_rule_36 rfl (lv_at hl 1 rfl) ?_
        refine lv_if_ne (tgt := 47) hx hb dX7_rule_37 (by decide) (fun c_4 => ?_) (fun c_4 => ?_)
        · refine lv_aload_n hx hb dX7_rule_47 rfl (lv_at hl 0 rfl) ?_
          refine va_get (D := D) (ci := 7) (C := RX7) (T := TX7) (N := 23) hx hb hW inX7 hown hK hP 0 rfl rfl 14 (by decide) (hW _ (wa tw564 rfl)) (fun _ h9 => h9) rfl dX7_rule_48 ?_
          refine lv_istore_n (lv' := [(3, .int (Z 12 4)), (0, .ref (a 0)), (1, .int what), (2, .int v)]) hx hb dX7_rule_51 rfl hl (by decide) rfl (fun ls hl => ?_)
          refine lv_aload_n hx hb dX7_rule_52 rfl (lv_at hl 1 rfl) ?_
          refine lv_iload_n hx hb dX7_rule_53 rfl (lv_at hl 2 rfl) ?_
          refine lv_if_ne (tgt := 61) hx hb dX7_rule_54 (by decide) (fun c_5 => ?_) (fun c_5 => ?_)
          · refine lv_aload_n hx hb dX7_rule_61 rfl (lv_at hl 1 rfl) ?_
            refine va_get (D := D) (ci := 7) (C := RX7) (T := TX7) (N := 23) hx hb hW inX7 hown hK hP 0 rfl rfl 13 (by decide) (hW _ (wa tw563 rfl)) (fun _ h9 => h9) rfl dX7_rule_62 ?_
            refine va_put (D := D) (v := .int (Z 12 3)) (ty := .int) (ci := 7) (C := RX7) (T := TX7) (N := 23) hx hb hW inX7 tyX7 tyX7_ok nmX7 hown hK hP hD hS 0 rfl rfl 13 (by decide) (hW _ (wa tw563 rfl)) (fun _ h9 => h9) rfl (by decide +kernel) rfl rfl (Nat.le_of_ble_eq_true rfl) dX7_rule_65 (fun H locs hP hD hS => ?_)
            have hP : va_P D vwCl [((a 0), .inr (7, [.int (Z 12 0), .ref (a 1), .ref (a 2), .ref (a 3), .ref (a 4), .int (Z 12 1), .ref (a 5), .ref (a 6), .ref (a 7), .ref (a 8), .ref (a 9), .int (Z 12 2), .ref (a 10), .int (Z 12 3), .int (Z 12 4), .ref (a 11), .ref (a 12), .long (Y 5 0), .ref (a 13), .ref (a 14), .ref (a 15), .ref (a 16), .ref (a 17)])), ((a 1), eI C 48 (Z 0)), ((a 2), eI C 24 (Z 1)), ((a 3), eZ C 12 (Z 2)), ((a 4), eZ C 12 (Z 3)), ((a 5), eI C 60 (Z 4)), ((a 6), eI C 60 (Z 5)), ((a 7), eI C 60 (Z 6)), ((a 8), eZ C 60 (Z 7)), ((a 9), eZ C 244 (Z 8)), ((a 10), eI C 24 (Z 9)), ((a 11), eJ C 9 (Y 0)), ((a 12), eJ C 9 (Y 1)), ((a 13), eJ C 3 (Y 2)), ((a 14), eJ C 3 (Y 3)), ((a 15), eJ C 12 (Y 4)), ((a 16), eI C 6 (Z 10)), ((a 17), eI C 4 (Z 11))] H := hP
            have hD : va_D A [((a 0), .inr (7, [.int (Z 12 0), .ref (a 1), .ref (a 2), .ref (a 3), .ref (a 4), .int (Z 12 1), .ref (a 5), .ref (a 6), .ref (a 7), .ref (a 8), .ref (a 9), .int (Z 12 2), .ref (a 10), .int (Z 12 3), .int (Z 12 4), .ref (a 11), .ref (a 12), .long (Y 5 0), .ref (a 13), .ref (a 14), .ref (a 15), .ref (a 16), .ref (a 17)])), ((a 1), eI C 48 (Z 0)), ((a 2), eI C 24 (Z 1)), ((a 3), eZ C 12 (Z 2)), ((a 4), eZ C 12 (Z 3)), ((a 5), eI C 60 (Z 4)), ((a 6), eI C 60 (Z 5)), ((a 7), eI C 60 (Z 6)), ((a 8), eZ C 60 (Z 7)), ((a 9), eZ C 244 (Z 8)), ((a 10), eI C 24 (Z 9)), ((a 11), eJ C 9 (Y 0)), ((a 12), eJ C 9 (Y 1)), ((a 13), eJ C 3 (Y 2)), ((a 14), eJ C 3 (Y 3)), ((a 15), eJ C 12 (Y 4)), ((a 16), eI C 6 (Z 10)), ((a 17), eI C 4 (Z 11))] := hD
            refine lv_aload_n hx hb dX7_rule_68 rfl (lv_at hl 1 rfl) ?_
            refine lv_iload_n hx hb dX7_rule_69 rfl (lv_at hl 2 rfl) ?_
            refine lv_iconst (v := 1) hx hb dX7_rule_70 (by decide) ?_
            refine lv_icmp_ne (tgt := 78) hx hb dX7_rule_71 (by decide) (fun c_6 => ?_) (fun c_6 => ?_)
            · refine lv_aload_n hx hb dX7_rule_78 rfl (lv_at hl 1 rfl) ?_
              refine va_get (D := D) (ci := 7) (C := RX7) (T := TX7) (N := 23) hx hb hW inX7 hown hK hP 0 rfl rfl 14 (by decide) (hW _ (wa tw564 rfl)) (fun _ h9 => h9) rfl dX7_rule_79 ?_
              refine va_put (D := D) (v := .int (Z 12 4)) (ty := .int) (ci := 7) (C := RX7) (T := TX7) (N := 23) hx hb hW inX7 tyX7 tyX7_ok nmX7 hown hK hP hD hS 0 rfl rfl 14 (by decide) (hW _ (wa tw564 rfl)) (fun _ h9 => h9) rfl (by decide +kernel) rfl rfl (Nat.le_of_ble_eq_true rfl) dX7_rule_82 (fun H locs hP hD hS => ?_)
              have hP : va_P D vwCl [((a 0), .inr (7, [.int (Z 12 0), .ref (a 1), .ref (a 2), .ref (a 3), .ref (a 4), .int (Z 12 1), .ref (a 5), .ref (a 6), .ref (a 7), .ref (a 8), .ref (a 9), .int (Z 12 2), .ref (a 10), .int (Z 12 3), .int (Z 12 4), .ref (a 11), .ref (a 12), .long (Y 5 0), .ref (a 13), .ref (a 14), .ref (a 15), .ref (a 16), .ref (a 17)])), ((a 1), eI C 48 (Z 0)), ((a 2), eI C 24 (Z 1)), ((a 3), eZ C 12 (Z 2)), ((a 4), eZ C 12 (Z 3)), ((a 5), eI C 60 (Z 4)), ((a 6), eI C 60 (Z 5)), ((a 7), eI C 60 (Z 6)), ((a 8), eZ C 60 (Z 7)), ((a 9), eZ C 244 (Z 8)), ((a 10), eI C 24 (Z 9)), ((a 11), eJ C 9 (Y 0)), ((a 12), eJ C 9 (Y 1)), ((a 13), eJ C 3 (Y 2)), ((a 14), eJ C 3 (Y 3)), ((a 15), eJ C 12 (Y 4)), ((a 16), eI C 6 (Z 10)), ((a 17), eI C 4 (Z 11))] H := hP
              have hD : va_D A [((a 0), .inr (7, [.int (Z 12 0), .ref (a 1), .ref (a 2), .ref (a 3), .ref (a 4), .int (Z 12 1), .ref (a 5), .ref (a 6), .ref (a 7), .ref (a 8), .ref (a 9), .int (Z 12 2), .ref (a 10), .int (Z 12 3), .int (Z 12 4), .ref (a 11), .ref (a 12), .long (Y 5 0), .ref (a 13), .ref (a 14), .ref (a 15), .ref (a 16), .ref (a 17)])), ((a 1), eI C 48 (Z 0)), ((a 2), eI C 24 (Z 1)), ((a 3), eZ C 12 (Z 2)), ((a 4), eZ C 12 (Z 3)), ((a 5), eI C 60 (Z 4)), ((a 6), eI C 60 (Z 5)), ((a 7), eI C 60 (Z 6)), ((a 8), eZ C 60 (Z 7)), ((a 9), eZ C 244 (Z 8)), ((a 10), eI C 24 (Z 9)), ((a 11), eJ C 9 (Y 0)), ((a 12), eJ C 9 (Y 1)), ((a 13), eJ C 3 (Y 2)), ((a 14), eJ C 3 (Y 3)), ((a 15), eJ C 12 (Y 4)), ((a 16), eI C 6 (Z 10)), ((a 17), eI C 4 (Z 11))] := hD
              refine lv_iload_n hx hb dX7_rule_85 rfl (lv_at hl 0 rfl) ?_
              have hb_0 : (f7_rule_Z Z what v) = Z := (by simp only [f7_rule, f7_rule_Z, if_neg c_1, if_neg c_2, if_neg c_3, if_neg c_4, if_neg c_5, if_neg c_6])
              have hP9 : va_P D vwCl ((wZ a C (f7_rule_Z Z what v) Y)) H := by rw [hb_0]; exact hP
              have hD9 : va_D A ((wZ a C (f7_rule_Z Z what v) Y)) := by rw [hb_0]; exact hD
              exact W.iret (v := Z 12 4) hx hb hr (fun t ht _ => ⟨⟨_, (), rfl, (by simp only [f7_rule, f7_rule_Z, if_neg c_1, if_neg c_2, if_neg c_3, if_neg c_4, if_neg c_5, if_neg c_6]), ⟨by rw [ht]; exact hP9, by rw [hAe]; exact hD9⟩⟩, hS.F ht⟩) hS.2.2 dX7_rule_86
            · refine lv_iload_n hx hb dX7_rule_74 rfl (lv_at hl 3 rfl) ?_
              refine lv_goto (tgt := 82) hx hb dX7_rule_75 (by decide) ?_
              refine va_put (D := D) (v := .int v) (ty := .int) (ci := 7) (C := RX7) (T := TX7) (N := 23) hx hb hW inX7 tyX7 tyX7_ok nmX7 hown hK hP hD hS 0 rfl rfl 14 (by decide) (hW _ (wa tw564 rfl)) (fun _ h9 => h9) rfl (by decide +kernel) rfl rfl (Nat.le_of_ble_eq_true rfl) dX7_rule_82 (fun H locs hP hD hS => ?_)
              have hP : va_P D vwCl [((a 0), .inr (7, [.int (Z 12 0), .ref (a 1), .ref (a 2), .ref (a 3), .ref (a 4), .int (Z 12 1), .ref (a 5), .ref (a 6), .ref (a 7), .ref (a 8), .ref (a 9), .int (Z 12 2), .ref (a 10), .int (Z 12 3), .int v, .ref (a 11), .ref (a 12), .long (Y 5 0), .ref (a 13), .ref (a 14), .ref (a 15), .ref (a 16), .ref (a 17)])), ((a 1), eI C 48 (Z 0)), ((a 2), eI C 24 (Z 1)), ((a 3), eZ C 12 (Z 2)), ((a 4), eZ C 12 (Z 3)), ((a 5), eI C 60 (Z 4)), ((a 6), eI C 60 (Z 5)), ((a 7), eI C 60 (Z 6)), ((a 8), eZ C 60 (Z 7)), ((a 9), eZ C 244 (Z 8)), ((a 10), eI C 24 (Z 9)), ((a 11), eJ C 9 (Y 0)), ((a 12), eJ C 9 (Y 1)), ((a 13), eJ C 3 (Y 2)), ((a 14), eJ C 3 (Y 3)), ((a 15), eJ C 12 (Y 4)), ((a 16), eI C 6 (Z 10)), ((a 17), eI C 4 (Z 11))] H := hP
              have hD : va_D A [((a 0), .inr (7, [.int (Z 12 0), .ref (a 1), .ref (a 2), .ref (a 3), .ref (a 4), .int (Z 12 1), .ref (a 5), .ref (a 6), .ref (a 7), .ref (a 8), .ref (a 9), .int (Z 12 2), .ref (a 10), .int (Z 12 3), .int v, .ref (a 11), .ref (a 12), .long (Y 5 0), .ref (a 13), .ref (a 14), .ref (a 15), .ref (a 16), .ref (a 17)])), ((a 1), eI C 48 (Z 0)), ((a 2), eI C 24 (Z 1)), ((a 3), eZ C 12 (Z 2)), ((a 4), eZ C 12 (Z 3)), ((a 5), eI C 60 (Z 4)), ((a 6), eI C 60 (Z 5)), ((a 7), eI C 60 (Z 6)), ((a 8), eZ C 60 (Z 7)), ((a 9), eZ C 244 (Z 8)), ((a 10), eI C 24 (Z 9)), ((a 11), eJ C 9 (Y 0)), ((a 12), eJ C 9 (Y 1)), ((a 13), eJ C 3 (Y 2)), ((a 14), eJ C 3 (Y 3)), ((a 15), eJ C 12 (Y 4)), ((a 16), eI C 6 (Z 10)), ((a 17), eI C 4 (Z 11))] := hD
              refine lv_iload_n hx hb dX7_rule_85 rfl (lv_at hl 0 rfl) ?_
              have hb_0 : (f7_rule_Z Z what v) = uM Z 12 (upd (Z 12) 4 v) := (by simp only [f7_rule, f7_rule_Z, if_neg c_1, if_neg c_2, if_neg c_3, if_neg c_4, if_neg c_5, if_pos c_6])
              have hP9 : va_P D vwCl ((wZ a C (f7_rule_Z Z what v) Y)) H := by rw [hb_0]; exact hP
              have hD9 : va_D A ((wZ a C (f7_rule_Z Z what v) Y)) := by rw [hb_0]; exact hD
              exact W.iret (v := Z 12 4) hx hb hr (fun t ht _ => ⟨⟨_, (), rfl, (by simp only [f7_rule, f7_rule_Z, if_neg c_1, if_neg c_2, if_neg c_3, if_neg c_4, if_neg c_5, if_pos c_6]), ⟨by rw [ht]; exact hP9, by rw [hAe]; exact hD9⟩⟩, hS.F ht⟩) hS.2.2 dX7_rule_86
          · exact absurd c_5 c_4
        · exact absurd c_4 c_2
      · refine lv_ldc hx hb hown (hW _ (wa tw631 rfl)) dX7_rule_33 ?_
        have hb_0 : (f7_rule_Z Z what v) = Z := (by simp only [f7_rule, f7_rule_Z, if_neg c_1, if_neg c_2, if_pos c_3])
        have hP9 : va_P D vwCl ((wZ a C (f7_rule_Z Z what v) Y)) s.heap := by rw [hb_0]; exact hP
        have hD9 : va_D A ((wZ a C (f7_rule_Z Z what v) Y)) := by rw [hb_0]; exact hD
        exact W.iret (v := (-100002)) hx hb hr (fun t ht _ => ⟨⟨_, (), rfl, (by simp only [f7_rule, f7_rule_Z, if_neg c_1, if_neg c_2, if_pos c_3]), ⟨by rw [ht]; exact hP9, by rw [hAe]; exact hD9⟩⟩, hS.F ht⟩) hS.2.2 dX7_rule_35
    · refine lv_ldc2 hx hb hown (hW _ (wa tw788 rfl)) dX7_rule_18 ?_
      refine lv_goto (tgt := 27) hx hb dX7_rule_21 (by decide) ?_
      refine xri (r := f7_in v.toInt64 what.toInt64 1998) (rS (As := [.long v.toInt64, .long what.toInt64, .long 1998]) (n := 3) (rest := []) ⟨hx, hb, hml, hown, hW⟩ (kX7_in l v.toInt64 what.toInt64 1998) (wa tw628 rfl) (wa tw626 rfl) (wa tw627 rfl) (wa tw8 rfl) (by decide +kernel) ⟨Nat.le_of_ble_eq_true rfl, Nat.le_of_ble_eq_true rfl⟩ pS0 hl.1 rfl (Nat.le_of_ble_eq_true rfl) dX7_rule_27 ⟨Nat.le_of_ble_eq_true rfl, Nat.le_of_ble_eq_true rfl⟩ rfl rfl rfl) ?_
      refine lv_if_ne (tgt := 36) hx hb dX7_rule_30 (by decide) (fun c_7 => ?_) (fun c_7 => ?_)
      · refine lv_iload_n hx hb dX7_rule_36 rfl (lv_at hl 1 rfl) ?_
        refine lv_if_ne (tgt := 47) hx hb dX7_rule_37 (by decide) (fun c_8 => ?_) (fun c_8 => ?_)
        · exact absurd c_2 c_8
        · refine lv_aload_n hx hb dX7_rule_40 rfl (lv_at hl 0 rfl) ?_
          refine va_get (D := D) (ci := 7) (C := RX7) (T := TX7) (N := 23) hx hb hW inX7 hown hK hP 0 rfl rfl 13 (by decide) (hW _ (wa tw563 rfl)) (fun _ h9 => h9) rfl dX7_rule_41 ?_
          refine lv_goto (tgt := 51) hx hb dX7_rule_44 (by decide) ?_
          refine lv_istore_n (lv' := [(3, .int (Z 12 3)), (0, .ref (a 0)), (1, .int what), (2, .int v)]) hx hb dX7_rule_51 rfl hl (by decide) rfl (fun ls hl => ?_)
          refine lv_aload_n hx hb dX7_rule_52 rfl (lv_at hl 1 rfl) ?_
          refine lv_iload_n hx hb dX7_rule_53 rfl (lv_at hl 2 rfl) ?_
          refine lv_if_ne (tgt := 61) hx hb dX7_rule_54 (by decide) (fun c_9 => ?_) (fun c_9 => ?_)
          · exact absurd c_8 c_9
          · refine lv_iload_n hx hb dX7_rule_57 rfl (lv_at hl 3 rfl) ?_
            refine lv_goto (tgt := 65) hx hb dX7_rule_58 (by decide) ?_
            refine va_put (D := D) (v := .int v) (ty := .int) (ci := 7) (C := RX7) (T := TX7) (N := 23) hx hb hW inX7 tyX7 tyX7_ok nmX7 hown hK hP hD hS 0 rfl rfl 13 (by decide) (hW _ (wa tw563 rfl)) (fun _ h9 => h9) rfl (by decide +kernel) rfl rfl (Nat.le_of_ble_eq_true rfl) dX7_rule_65 (fun H locs hP hD hS => ?_)
            have hP : va_P D vwCl [((a 0), .inr (7, [.int (Z 12 0), .ref (a 1), .ref (a 2), .ref (a 3), .ref (a 4), .int (Z 12 1), .ref (a 5), .ref (a 6), .ref (a 7), .ref (a 8), .ref (a 9), .int (Z 12 2), .ref (a 10), .int v, .int (Z 12 4), .ref (a 11), .ref (a 12), .long (Y 5 0), .ref (a 13), .ref (a 14), .ref (a 15), .ref (a 16), .ref (a 17)])), ((a 1), eI C 48 (Z 0)), ((a 2), eI C 24 (Z 1)), ((a 3), eZ C 12 (Z 2)), ((a 4), eZ C 12 (Z 3)), ((a 5), eI C 60 (Z 4)), ((a 6), eI C 60 (Z 5)), ((a 7), eI C 60 (Z 6)), ((a 8), eZ C 60 (Z 7)), ((a 9), eZ C 244 (Z 8)), ((a 10), eI C 24 (Z 9)), ((a 11), eJ C 9 (Y 0)), ((a 12), eJ C 9 (Y 1)), ((a 13), eJ C 3 (Y 2)), ((a 14), eJ C 3 (Y 3)), ((a 15), eJ C 12 (Y 4)), ((a 16), eI C 6 (Z 10)), ((a 17), eI C 4 (Z 11))] H := hP
            have hD : va_D A [((a 0), .inr (7, [.int (Z 12 0), .ref (a 1), .ref (a 2), .ref (a 3), .ref (a 4), .int (Z 12 1), .ref (a 5), .ref (a 6), .ref (a 7), .ref (a 8), .ref (a 9), .int (Z 12 2), .ref (a 10), .int v, .int (Z 12 4), .ref (a 11), .ref (a 12), .long (Y 5 0), .ref (a 13), .ref (a 14), .ref (a 15), .ref (a 16), .ref (a 17)])), ((a 1), eI C 48 (Z 0)), ((a 2), eI C 24 (Z 1)), ((a 3), eZ C 12 (Z 2)), ((a 4), eZ C 12 (Z 3)), ((a 5), eI C 60 (Z 4)), ((a 6), eI C 60 (Z 5)), ((a 7), eI C 60 (Z 6)), ((a 8), eZ C 60 (Z 7)), ((a 9), eZ C 244 (Z 8)), ((a 10), eI C 24 (Z 9)), ((a 11), eJ C 9 (Y 0)), ((a 12), eJ C 9 (Y 1)), ((a 13), eJ C 3 (Y 2)), ((a 14), eJ C 3 (Y 3)), ((a 15), eJ C 12 (Y 4)), ((a 16), eI C 6 (Z 10)), ((a 17), eI C 4 (Z 11))] := hD
            refine lv_aload_n hx hb dX7_rule_68 rfl (lv_at hl 1 rfl) ?_
            refine lv_iload_n hx hb dX7_rule_69 rfl (lv_at hl 2 rfl) ?_
            refine lv_iconst (v := 1) hx hb dX7_rule_70 (by decide) ?_
            refine lv_icmp_ne (tgt := 78) hx hb dX7_rule_71 (by decide) (fun c_10 => ?_) (fun c_10 => ?_)
            · refine lv_aload_n hx hb dX7_rule_78 rfl (lv_at hl 1 rfl) ?_
              refine va_get (D := D) (ci := 7) (C := RX7) (T := TX7) (N := 23) hx hb hW inX7 hown hK hP 0 rfl rfl 14 (by decide) (hW _ (wa tw564 rfl)) (fun _ h9 => h9) rfl dX7_rule_79 ?_
              refine va_put (D := D) (v := .int (Z 12 4)) (ty := .int) (ci := 7) (C := RX7) (T := TX7) (N := 23) hx hb hW inX7 tyX7 tyX7_ok nmX7 hown hK hP hD hS 0 rfl rfl 14 (by decide) (hW _ (wa tw564 rfl)) (fun _ h9 => h9) rfl (by decide +kernel) rfl rfl (Nat.le_of_ble_eq_true rfl) dX7_rule_82 (fun H locs hP hD hS => ?_)
              have hP : va_P D vwCl [((a 0), .inr (7, [.int (Z 12 0), .ref (a 1), .ref (a 2), .ref (a 3), .ref (a 4), .int (Z 12 1), .ref (a 5), .ref (a 6), .ref (a 7), .ref (a 8), .ref (a 9), .int (Z 12 2), .ref (a 10), .int v, .int (Z 12 4), .ref (a 11), .ref (a 12), .long (Y 5 0), .ref (a 13), .ref (a 14), .ref (a 15), .ref (a 16), .ref (a 17)])), ((a 1), eI C 48 (Z 0)), ((a 2), eI C 24 (Z 1)), ((a 3), eZ C 12 (Z 2)), ((a 4), eZ C 12 (Z 3)), ((a 5), eI C 60 (Z 4)), ((a 6), eI C 60 (Z 5)), ((a 7), eI C 60 (Z 6)), ((a 8), eZ C 60 (Z 7)), ((a 9), eZ C 244 (Z 8)), ((a 10), eI C 24 (Z 9)), ((a 11), eJ C 9 (Y 0)), ((a 12), eJ C 9 (Y 1)), ((a 13), eJ C 3 (Y 2)), ((a 14), eJ C 3 (Y 3)), ((a 15), eJ C 12 (Y 4)), ((a 16), eI C 6 (Z 10)), ((a 17), eI C 4 (Z 11))] H := hP
              have hD : va_D A [((a 0), .inr (7, [.int (Z 12 0), .ref (a 1), .ref (a 2), .ref (a 3), .ref (a 4), .int (Z 12 1), .ref (a 5), .ref (a 6), .ref (a 7), .ref (a 8), .ref (a 9), .int (Z 12 2), .ref (a 10), .int v, .int (Z 12 4), .ref (a 11), .ref (a 12), .long (Y 5 0), .ref (a 13), .ref (a 14), .ref (a 15), .ref (a 16), .ref (a 17)])), ((a 1), eI C 48 (Z 0)), ((a 2), eI C 24 (Z 1)), ((a 3), eZ C 12 (Z 2)), ((a 4), eZ C 12 (Z 3)), ((a 5), eI C 60 (Z 4)), ((a 6), eI C 60 (Z 5)), ((a 7), eI C 60 (Z 6)), ((a 8), eZ C 60 (Z 7)), ((a 9), eZ C 244 (Z 8)), ((a 10), eI C 24 (Z 9)), ((a 11), eJ C 9 (Y 0)), ((a 12), eJ C 9 (Y 1)), ((a 13), eJ C 3 (Y 2)), ((a 14), eJ C 3 (Y 3)), ((a 15), eJ C 12 (Y 4)), ((a 16), eI C 6 (Z 10)), ((a 17), eI C 4 (Z 11))] := hD
              refine lv_iload_n hx hb dX7_rule_85 rfl (lv_at hl 0 rfl) ?_
              have hb_0 : (f7_rule_Z Z what v) = uM Z 12 (upd (Z 12) 3 v) := (by simp only [f7_rule, f7_rule_Z, if_neg c_1, if_pos c_2, if_neg c_7, if_pos c_8, if_pos c_9, if_neg c_10])
              have hP9 : va_P D vwCl ((wZ a C (f7_rule_Z Z what v) Y)) H := by rw [hb_0]; exact hP
              have hD9 : va_D A ((wZ a C (f7_rule_Z Z what v) Y)) := by rw [hb_0]; exact hD
              exact W.iret (v := Z 12 3) hx hb hr (fun t ht _ => ⟨⟨_, (), rfl, (by simp only [f7_rule, f7_rule_Z, if_neg c_1, if_pos c_2, if_neg c_7, if_pos c_8, if_pos c_9, if_neg c_10]), ⟨by rw [ht]; exact hP9, by rw [hAe]; exact hD9⟩⟩, hS.F ht⟩) hS.2.2 dX7_rule_86
            · exact absurd (c_9.symm.trans c_10) (by decide)
      · refine lv_ldc hx hb hown (hW _ (wa tw631 rfl)) dX7_rule_33 ?_
        have hb_0 : (f7_rule_Z Z what v) = Z := (by simp only [f7_rule, f7_rule_Z, if_neg c_1, if_pos c_2, if_pos c_7])
        have hP9 : va_P D vwCl ((wZ a C (f7_rule_Z Z what v) Y)) s.heap := by rw [hb_0]; exact hP
        have hD9 : va_D A ((wZ a C (f7_rule_Z Z what v) Y)) := by rw [hb_0]; exact hD
        exact W.iret (v := (-100002)) hx hb hr (fun t ht _ => ⟨⟨_, (), rfl, (by simp only [f7_rule, f7_rule_Z, if_neg c_1, if_pos c_2, if_pos c_7]), ⟨by rw [ht]; exact hP9, by rw [hAe]; exact hD9⟩⟩, hS.F ht⟩) hS.2.2 dX7_rule_35

def stM (Z : Nat → Nat → Int32) (tool k : Nat) (x : Int32) : Int32 := if Z 8 (4 * k + tool) = 0 then x else 0
def stU (Z : Nat → Nat → Int32) (tool k : Nat) (y : Int32) : Int32 := if Z 4 k = nI tool then (if Z 7 k = 0 then y else y + Z 12 2 * (1000 * (Z 6 k - Z 5 k) - y) / 16) else y
def stL (Z : Nat → Nat → Int32) (tool n : Nat) : Nat → Nat → Int32 → Int32
  | 0, _, x => x
  | r + 1, k, x => stL Z tool n r (k + 1) (if nI n ≤ nI k then stM Z tool k x else stU Z tool k (stM Z tool k x))
def f7_stateOf (Z : Nat → Nat → Int32) (tool n : Nat) : Int32 := stL Z tool n (n + 1) 0 0

set_option maxHeartbeats 4000000 in
set_option maxRecDepth 100000 in
theorem kX7_stateOf (l : Launch) (D : va_G) (C : Nat → ClassId) (a : Nat → Nat) (Z : Nat → Nat → Int32) (Y : Nat → Nat → Int64) (tool n : Nat) (ht4 : tool < 4) (hn60 : n ≤ 60) : Ri l D C yX7_stateOf cX7_stateOf 5 .int 0 [.ref (a 0), .int (nI tool), .int (nI n)] (wZ a C Z Y) (f7_stateOf Z tool n) := by
  refine Met.ofW (cc := cX7_stateOf) (maxL := 5) (ret := (some .int)) (by decide) rfl ?_
  intro p e s m args below meth c s₁ B hml hv
  obtain ⟨rfl, hP, hK, hNw⟩ := hv
  have hx := B.exec
  have hb := B.bytes
  have hr := B.returns
  have hts := atoms_spec (ws := wm yX7_stateOf cX7_stateOf 5 (some .int)) B.pre
  have hown : s.vm.findClass RX7 = some m.cls := findClass_of_methodNamed B.named
  have hlocks := B.notSynchronized
  have hW : ∀ w ∈ WA, w.before _ s = true := fun w h => hts w (List.mem_cons_of_mem _ h)
  have hP : va_P D vwCl [((a 0), .inr (7, [.int (Z 12 0), .ref (a 1), .ref (a 2), .ref (a 3), .ref (a 4), .int (Z 12 1), .ref (a 5), .ref (a 6), .ref (a 7), .ref (a 8), .ref (a 9), .int (Z 12 2), .ref (a 10), .int (Z 12 3), .int (Z 12 4), .ref (a 11), .ref (a 12), .long (Y 5 0), .ref (a 13), .ref (a 14), .ref (a 15), .ref (a 16), .ref (a 17)])), ((a 1), eI C 48 (Z 0)), ((a 2), eI C 24 (Z 1)), ((a 3), eZ C 12 (Z 2)), ((a 4), eZ C 12 (Z 3)), ((a 5), eI C 60 (Z 4)), ((a 6), eI C 60 (Z 5)), ((a 7), eI C 60 (Z 6)), ((a 8), eZ C 60 (Z 7)), ((a 9), eZ C 244 (Z 8)), ((a 10), eI C 24 (Z 9)), ((a 11), eJ C 9 (Y 0)), ((a 12), eJ C 9 (Y 1)), ((a 13), eJ C 3 (Y 2)), ((a 14), eJ C 3 (Y 3)), ((a 15), eJ C 12 (Y 4)), ((a 16), eI C 6 (Z 10)), ((a 17), eI C 4 (Z 11))] s.heap := hP
  have hl := lv_entry ([.ref (a 0), .int (nI tool), .int (nI n)]) (n := 5) (Nat.le_of_ble_eq_true rfl)
  rw [lg_entry_eq]
  generalize (lg_sl ([.ref (a 0), .int (nI tool), .int (nI n)]) ++ List.replicate (5 - (lg_sl ([.ref (a 0), .int (nI tool), .int (nI n)])).length) Slot.unset).toArray = ls at hl ⊢
  have hl : lv_has ls 5 [(0, .ref (a 0)), (1, .int (nI tool)), (2, .int (nI n))] := hl
  refine lv_iconst (v := 0) hx hb dX7_stateOf_0 (by decide) ?_
  refine lv_istore_n (lv' := [(3, .int 0), (0, .ref (a 0)), (1, .int (nI tool)), (2, .int (nI n))]) hx hb dX7_stateOf_1 rfl hl (by decide) rfl (fun ls hl => ?_)
  refine lv_iconst (v := 0) hx hb dX7_stateOf_2 (by decide) ?_
  refine lv_istore (lv' := [(4, .int 0), (3, .int 0), (0, .ref (a 0)), (1, .int (nI tool)), (2, .int (nI n))]) hx hb dX7_stateOf_3 hl (by decide) rfl (fun ls hl => ?_)
  obtain ⟨n5, k, x, hinv⟩ : ∃ (n5 : Nat) (k : Nat) (x : Int32), (k + n5 = n + 1) ∧ (stL Z tool n n5 k x = f7_stateOf Z tool n) ∧ lv_has ls 5 [(0, .ref (a 0)), (1, .int (nI tool)), (2, .int (nI n)), (3, .int x), (4, .int (nI k))] := ⟨(n + 1), 0, 0, by omega, rfl, lv_sub hl [2, 3, 4, 1, 0] rfl⟩
  clear hl
  induction n5 generalizing k x ls with
  | zero =>
    obtain ⟨h5_0, h5_1, hl⟩ := hinv
    refine lv_iload hx hb dX7_stateOf_5 (lv_at hl 4 rfl) ?_
    refine lv_iload_n hx hb dX7_stateOf_7 rfl (lv_at hl 2 rfl) ?_
    refine lv_icmp_gt (tgt := 96) hx hb dX7_stateOf_8 (by decide) (fun c_1 => ?_) (fun c_1 => ?_)
    · refine lv_iload_n hx hb dX7_stateOf_96 rfl (lv_at hl 3 rfl) ?_
      exact W.iret (v := x) hx hb hr (fun t ht _ => ⟨_, rfl, h5_1, ht⟩) (fun q h => by cases h) dX7_stateOf_97
    · exact absurd (q_lt rfl rfl (by omega) (by omega)) c_1
  | succ n5 ih5 =>
    obtain ⟨h5_0, h5_1, hl⟩ := hinv
    refine lv_iload hx hb dX7_stateOf_5 (lv_at hl 4 rfl) ?_
    refine lv_iload_n hx hb dX7_stateOf_7 rfl (lv_at hl 2 rfl) ?_
    refine lv_icmp_gt (tgt := 96) hx hb dX7_stateOf_8 (by decide) (fun c_2 => ?_) (fun c_2 => ?_)
    · exact absurd c_2 (q_nlt rfl rfl (by omega) (by omega))
    · refine lv_aload_n hx hb dX7_stateOf_11 rfl (lv_at hl 0 rfl) ?_
      refine va_get (D := D) (ci := 7) (C := RX7) (T := TX7) (N := 23) hx hb hW inX7 hown hK hP 0 rfl rfl 10 (by decide) (hW _ (wa tw560 rfl)) (fun _ h9 => h9) rfl dX7_stateOf_12 ?_
      refine lv_iconst (v := 4) hx hb dX7_stateOf_15 (by decide) ?_
      refine lv_iload hx hb dX7_stateOf_16 (lv_at hl 4 rfl) ?_
      refine lv_imul hx hb dX7_stateOf_18 ?_
      refine lv_iload_n hx hb dX7_stateOf_19 rfl (lv_at hl 1 rfl) ?_
      refine lv_iadd hx hb dX7_stateOf_20 ?_
      refine xzald hx hb hK hP 9 rfl ((4 * k) + tool) (q_add (q_mul (nI_lit 4) rfl) rfl) (by omega) (by decide) dX7_stateOf_21 ?_
      refine lv_if_eq (tgt := 29) hx hb dX7_stateOf_22 (by decide) (fun c_3 => ?_) (fun c_3 => ?_)
      · refine lv_iload_n hx hb dX7_stateOf_29 rfl (lv_at hl 3 rfl) ?_
        refine lv_istore_n (lv' := [(3, .int x), (0, .ref (a 0)), (1, .int (nI tool)), (2, .int (nI n)), (4, .int (nI k))]) hx hb dX7_stateOf_30 rfl hl (by decide) rfl (fun ls hl => ?_)
        refine lv_iload hx hb dX7_stateOf_31 (lv_at hl 4 rfl) ?_
        refine lv_iload_n hx hb dX7_stateOf_33 rfl (lv_at hl 3 rfl) ?_
        refine lv_icmp_ge (tgt := 90) hx hb dX7_stateOf_34 (by decide) (fun c_4 => ?_) (fun c_4 => ?_)
        · refine lv_iinc (v := nI k + 1) (lv' := [(4, .int (nI k + 1)), (3, .int x), (0, .ref (a 0)), (1, .int (nI tool)), (2, .int (nI n))]) hx hb dX7_stateOf_90 hl (k := 4) rfl rfl (by decide) rfl (fun ls hl => ?_)
          refine lv_goto (tgt := 5) hx hb dX7_stateOf_93 (by decide) ?_
          rw [nI_1] at hl
          exact ih5 (k := k + 1) (x := x) (ls := ls) ⟨by omega, by rw [← h5_1, stL]; simp only [stM, stU, if_pos c_3, if_pos c_4], lv_sub hl [2, 3, 4, 1, 0] rfl⟩
        · have hkn : k < n := nI_nle_of c_4 (by omega) (by omega)
          refine lv_aload_n hx hb dX7_stateOf_37 rfl (lv_at hl 1 rfl) ?_
          refine va_get (D := D) (ci := 7) (C := RX7) (T := TX7) (N := 23) hx hb hW inX7 hown hK hP 0 rfl rfl 6 (by decide) (hW _ (wa tw556 rfl)) (fun _ h9 => h9) rfl dX7_stateOf_38 ?_
          refine lv_iload hx hb dX7_stateOf_41 (lv_at hl 4 rfl) ?_
          refine xiald hx hb hK hP 5 rfl k rfl (by omega) (by decide) dX7_stateOf_43 ?_
          refine lv_iload_n hx hb dX7_stateOf_44 rfl (lv_at hl 2 rfl) ?_
          refine lv_icmp_ne (tgt := 90) hx hb dX7_stateOf_45 (by decide) (fun c_5 => ?_) (fun c_5 => ?_)
          · refine lv_iinc (v := nI k + 1) (lv' := [(4, .int (nI k + 1)), (3, .int x), (0, .ref (a 0)), (1, .int (nI tool)), (2, .int (nI n))]) hx hb dX7_stateOf_90 hl (k := 4) rfl rfl (by decide) rfl (fun ls hl => ?_)
            refine lv_goto (tgt := 5) hx hb dX7_stateOf_93 (by decide) ?_
            rw [nI_1] at hl
            exact ih5 (k := k + 1) (x := x) (ls := ls) ⟨by omega, by rw [← h5_1, stL]; simp only [stM, stU, if_pos c_3, if_neg c_4, if_neg c_5], lv_sub hl [2, 3, 4, 1, 0] rfl⟩
          · refine lv_aload_n hx hb dX7_stateOf_48 rfl (lv_at hl 1 rfl) ?_
            refine va_get (D := D) (ci := 7) (C := RX7) (T := TX7) (N := 23) hx hb hW inX7 hown hK hP 0 rfl rfl 9 (by decide) (hW _ (wa tw559 rfl)) (fun _ h9 => h9) rfl dX7_stateOf_49 ?_
            refine lv_iload hx hb dX7_stateOf_52 (lv_at hl 4 rfl) ?_
            refine xzald hx hb hK hP 8 rfl k rfl (by omega) (by decide) dX7_stateOf_54 ?_
            refine lv_if_eq (tgt := 90) hx hb dX7_stateOf_55 (by decide) (fun c_6 => ?_) (fun c_6 => ?_)
            · refine lv_iinc (v := nI k + 1) (lv' := [(4, .int (nI k + 1)), (3, .int x), (0, .ref (a 0)), (1, .int (nI tool)), (2, .int (nI n))]) hx hb dX7_stateOf_90 hl (k := 4) rfl rfl (by decide) rfl (fun ls hl => ?_)
              refine lv_goto (tgt := 5) hx hb dX7_stateOf_93 (by decide) ?_
              rw [nI_1] at hl
              exact ih5 (k := k + 1) (x := x) (ls := ls) ⟨by omega, by rw [← h5_1, stL]; simp only [stM, stU, if_pos c_3, if_neg c_4, if_pos c_5, if_pos c_6], lv_sub hl [2, 3, 4, 1, 0] rfl⟩
            · refine lv_iload_n hx hb dX7_stateOf_58 rfl (lv_at hl 0 rfl) ?_
              refine lv_aload_n hx hb dX7_stateOf_59 rfl (lv_at hl 1 rfl) ?_
              refine va_get (D := D) (ci := 7) (C := RX7) (T := TX7) (N := 23) hx hb hW inX7 hown hK hP 0 rfl rfl 11 (by decide) (hW _ (wa tw561 rfl)) (fun _ h9 => h9) rfl dX7_stateOf_60 ?_
              refine lv_sipush (v := 1000) hx hb dX7_stateOf_63 (by decide) ?_
              refine lv_aload_n hx hb dX7_stateOf_66 rfl (lv_at hl 1 rfl) ?_
              refine va_get (D := D) (ci := 7) (C := RX7) (T := TX7) (N := 23) hx hb hW inX7 hown hK hP 0 rfl rfl 8 (by decide) (hW _ (wa tw558 rfl)) (fun _ h9 => h9) rfl dX7_stateOf_67 ?_
              refine lv_iload hx hb dX7_stateOf_70 (lv_at hl 4 rfl) ?_
              refine xiald hx hb hK hP 7 rfl k rfl (by omega) (by decide) dX7_stateOf_72 ?_
              refine lv_aload_n hx hb dX7_stateOf_73 rfl (lv_at hl 1 rfl) ?_
              refine va_get (D := D) (ci := 7) (C := RX7) (T := TX7) (N := 23) hx hb hW inX7 hown hK hP 0 rfl rfl 7 (by decide) (hW _ (wa tw557 rfl)) (fun _ h9 => h9) rfl dX7_stateOf_74 ?_
              refine lv_iload hx hb dX7_stateOf_77 (lv_at hl 4 rfl) ?_
              refine xiald hx hb hK hP 6 rfl k rfl (by omega) (by decide) dX7_stateOf_79 ?_
              refine lv_isub hx hb dX7_stateOf_80 ?_
              refine lv_imul hx hb dX7_stateOf_81 ?_
              refine lv_iload_n hx hb dX7_stateOf_82 rfl (lv_at hl 0 rfl) ?_
              refine lv_isub hx hb dX7_stateOf_83 ?_
              refine lv_imul hx hb dX7_stateOf_84 ?_
              refine lv_bipush (v := 16) hx hb dX7_stateOf_85 (by decide) ?_
              refine lv_idiv hx hb dX7_stateOf_87 (by decide) ?_
              refine lv_iadd hx hb dX7_stateOf_88 ?_
              refine lv_istore_n (lv' := [(3, .int (x + (((Z 12 2) * ((1000 * (((Z 6) k) - ((Z 5) k))) - x)) / 16))), (0, .ref (a 0)), (1, .int (nI tool)), (2, .int (nI n)), (4, .int (nI k))]) hx hb dX7_stateOf_89 rfl hl (by decide) rfl (fun ls hl => ?_)
              refine lv_iinc (v := nI k + 1) (lv' := [(4, .int (nI k + 1)), (3, .int (x + (((Z 12 2) * ((1000 * (((Z 6) k) - ((Z 5) k))) - x)) / 16))), (0, .ref (a 0)), (1, .int (nI tool)), (2, .int (nI n))]) hx hb dX7_stateOf_90 hl (k := 4) rfl rfl (by decide) rfl (fun ls hl => ?_)
              refine lv_goto (tgt := 5) hx hb dX7_stateOf_93 (by decide) ?_
              rw [nI_1] at hl
              exact ih5 (k := k + 1) (x := (x + (((Z 12 2) * ((1000 * (((Z 6) k) - ((Z 5) k))) - x)) / 16))) (ls := ls) ⟨by omega, by rw [← h5_1, stL]; simp only [stM, stU, if_pos c_3, if_neg c_4, if_pos c_5, if_neg c_6], lv_sub hl [2, 3, 4, 1, 0] rfl⟩
      · refine lv_iconst (v := 0) hx hb dX7_stateOf_25 (by decide) ?_
        refine lv_goto (tgt := 30) hx hb dX7_stateOf_26 (by decide) ?_
        refine lv_istore_n (lv' := [(3, .int 0), (0, .ref (a 0)), (1, .int (nI tool)), (2, .int (nI n)), (4, .int (nI k))]) hx hb dX7_stateOf_30 rfl hl (by decide) rfl (fun ls hl => ?_)
        refine lv_iload hx hb dX7_stateOf_31 (lv_at hl 4 rfl) ?_
        refine lv_iload_n hx hb dX7_stateOf_33 rfl (lv_at hl 3 rfl) ?_
        refine lv_icmp_ge (tgt := 90) hx hb dX7_stateOf_34 (by decide) (fun c_7 => ?_) (fun c_7 => ?_)
        · refine lv_iinc (v := nI k + 1) (lv' := [(4, .int (nI k + 1)), (3, .int 0), (0, .ref (a 0)), (1, .int (nI tool)), (2, .int (nI n))]) hx hb dX7_stateOf_90 hl (k := 4) rfl rfl (by decide) rfl (fun ls hl => ?_)
          refine lv_goto (tgt := 5) hx hb dX7_stateOf_93 (by decide) ?_
          rw [nI_1] at hl
          exact ih5 (k := k + 1) (x := 0) (ls := ls) ⟨by omega, by rw [← h5_1, stL]; simp only [stM, stU, if_neg c_3, if_pos c_7], lv_sub hl [2, 3, 4, 1, 0] rfl⟩
        · have hkn : k < n := nI_nle_of c_7 (by omega) (by omega)
          refine lv_aload_n hx hb dX7_stateOf_37 rfl (lv_at hl 1 rfl) ?_
          refine va_get (D := D) (ci := 7) (C := RX7) (T := TX7) (N := 23) hx hb hW inX7 hown hK hP 0 rfl rfl 6 (by decide) (hW _ (wa tw556 rfl)) (fun _ h9 => h9) rfl dX7_stateOf_38 ?_
          refine lv_iload hx hb dX7_stateOf_41 (lv_at hl 4 rfl) ?_
          refine xiald hx hb hK hP 5 rfl k rfl (by omega) (by decide) dX7_stateOf_43 ?_
          refine lv_iload_n hx hb dX7_stateOf_44 rfl (lv_at hl 2 rfl) ?_
          refine lv_icmp_ne (tgt := 90) hx hb dX7_stateOf_45 (by decide) (fun c_8 => ?_) (fun c_8 => ?_)
          · refine lv_iinc (v := nI k + 1) (lv' := [(4, .int (nI k + 1)), (3, .int 0), (0, .ref (a 0)), (1, .int (nI tool)), (2, .int (nI n))]) hx hb dX7_stateOf_90 hl (k := 4) rfl rfl (by decide) rfl (fun ls hl => ?_)
            refine lv_goto (tgt := 5) hx hb dX7_stateOf_93 (by decide) ?_
            rw [nI_1] at hl
            exact ih5 (k := k + 1) (x := 0) (ls := ls) ⟨by omega, by rw [← h5_1, stL]; simp only [stM, stU, if_neg c_3, if_neg c_7, if_neg c_8], lv_sub hl [2, 3, 4, 1, 0] rfl⟩
          · refine lv_aload_n hx hb dX7_stateOf_48 rfl (lv_at hl 1 rfl) ?_
            refine va_get (D := D) (ci := 7) (C := RX7) (T := TX7) (N := 23) hx hb hW inX7 hown hK hP 0 rfl rfl 9 (by decide) (hW _ (wa tw559 rfl)) (fun _ h9 => h9) rfl dX7_stateOf_49 ?_
            refine lv_iload hx hb dX7_stateOf_52 (lv_at hl 4 rfl) ?_
            refine xzald hx hb hK hP 8 rfl k rfl (by omega) (by decide) dX7_stateOf_54 ?_
            refine lv_if_eq (tgt := 90) hx hb dX7_stateOf_55 (by decide) (fun c_9 => ?_) (fun c_9 => ?_)
            · refine lv_iinc (v := nI k + 1) (lv' := [(4, .int (nI k + 1)), (3, .int 0), (0, .ref (a 0)), (1, .int (nI tool)), (2, .int (nI n))]) hx hb dX7_stateOf_90 hl (k := 4) rfl rfl (by decide) rfl (fun ls hl => ?_)
              refine lv_goto (tgt := 5) hx hb dX7_stateOf_93 (by decide) ?_
              rw [nI_1] at hl
              exact ih5 (k := k + 1) (x := 0) (ls := ls) ⟨by omega, by rw [← h5_1, stL]; simp only [stM, stU, if_neg c_3, if_neg c_7, if_pos c_8, if_pos c_9], lv_sub hl [2, 3, 4, 1, 0] rfl⟩
            · refine lv_iload_n hx hb dX7_stateOf_58 rfl (lv_at hl 0 rfl) ?_
              refine lv_aload_n hx hb dX7_stateOf_59 rfl (lv_at hl 1 rfl) ?_
              refine va_get (D := D) (ci := 7) (C := RX7) (T := TX7) (N := 23) hx hb hW inX7 hown hK hP 0 rfl rfl 11 (by decide) (hW _ (wa tw561 rfl)) (fun _ h9 => h9) rfl dX7_stateOf_60 ?_
              refine lv_sipush (v := 1000) hx hb dX7_stateOf_63 (by decide) ?_
              refine lv_aload_n hx hb dX7_stateOf_66 rfl (lv_at hl 1 rfl) ?_
              refine va_get (D := D) (ci := 7) (C := RX7) (T := TX7) (N := 23) hx hb hW inX7 hown hK hP 0 rfl rfl 8 (by decide) (hW _ (wa tw558 rfl)) (fun _ h9 => h9) rfl dX7_stateOf_67 ?_
              refine lv_iload hx hb dX7_stateOf_70 (lv_at hl 4 rfl) ?_
              refine xiald hx hb hK hP 7 rfl k rfl (by omega) (by decide) dX7_stateOf_72 ?_
              refine lv_aload_n hx hb dX7_stateOf_73 rfl (lv_at hl 1 rfl) ?_
              refine va_get (D := D) (ci := 7) (C := RX7) (T := TX7) (N := 23) hx hb hW inX7 hown hK hP 0 rfl rfl 7 (by decide) (hW _ (wa tw557 rfl)) (fun _ h9 => h9) rfl dX7_stateOf_74 ?_
              refine lv_iload hx hb dX7_stateOf_77 (lv_at hl 4 rfl) ?_
              refine xiald hx hb hK hP 6 rfl k rfl (by omega) (by decide) dX7_stateOf_79 ?_
              refine lv_isub hx hb dX7_stateOf_80 ?_
              refine lv_imul hx hb dX7_stateOf_81 ?_
              refine lv_iload_n hx hb dX7_stateOf_82 rfl (lv_at hl 0 rfl) ?_
              refine lv_isub hx hb dX7_stateOf_83 ?_
              refine lv_imul hx hb dX7_stateOf_84 ?_
              refine lv_bipush (v := 16) hx hb dX7_stateOf_85 (by decide) ?_
              refine lv_idiv hx hb dX7_stateOf_87 (by decide) ?_
              refine lv_iadd hx hb dX7_stateOf_88 ?_
              refine lv_istore_n (lv' := [(3, .int (0 + (((Z 12 2) * ((1000 * (((Z 6) k) - ((Z 5) k))) - 0)) / 16))), (0, .ref (a 0)), (1, .int (nI tool)), (2, .int (nI n)), (4, .int (nI k))]) hx hb dX7_stateOf_89 rfl hl (by decide) rfl (fun ls hl => ?_)
              refine lv_iinc (v := nI k + 1) (lv' := [(4, .int (nI k + 1)), (3, .int (0 + (((Z 12 2) * ((1000 * (((Z 6) k) - ((Z 5) k))) - 0)) / 16))), (0, .ref (a 0)), (1, .int (nI tool)), (2, .int (nI n))]) hx hb dX7_stateOf_90 hl (k := 4) rfl rfl (by decide) rfl (fun ls hl => ?_)
              refine lv_goto (tgt := 5) hx hb dX7_stateOf_93 (by decide) ?_
              rw [nI_1] at hl
              exact ih5 (k := k + 1) (x := (0 + (((Z 12 2) * ((1000 * (((Z 6) k) - ((Z 5) k))) - 0)) / 16))) (ls := ls) ⟨by omega, by rw [← h5_1, stL]; simp only [stM, stU, if_neg c_3, if_neg c_7, if_pos c_8, if_neg c_9], lv_sub hl [2, 3, 4, 1, 0] rfl⟩

def f7_state (Z : Nat → Nat → Int32) (tool n : Int32) : Int32 := (if (f7_isTool tool) = 0 then ((-100001)) else (if (f7_in n.toInt64 0 ((Z 12 1).toInt64)) = 0 then ((-100002)) else (f7_stateOf Z (ix tool) (ix n))))
set_option maxHeartbeats 4000000 in
set_option maxRecDepth 100000 in
theorem kX7_state (l : Launch) (D : va_G) (C : Nat → ClassId) (a : Nat → Nat) (Z : Nat → Nat → Int32) (Y : Nat → Nat → Int64) (tool n : Int32) (L : Nat) (hL : Z 12 1 = nI L) (hL60 : L ≤ 60) : Ri l D C yX7_state cX7_state 3 .int 2 [.ref (a 0), .int tool, .int n] (wZ a C Z Y) (f7_state Z tool n) := by
  refine Met.ofW (cc := cX7_state) (maxL := 3) (ret := (some .int)) (by decide) rfl ?_
  intro p e s m args below meth c s₁ B hml hv
  obtain ⟨rfl, hP, hK, hNw⟩ := hv
  have hx := B.exec
  have hb := B.bytes
  have hr := B.returns
  have hts := atoms_spec (ws := wm yX7_state cX7_state 3 (some .int)) B.pre
  have hown : s.vm.findClass RX7 = some m.cls := findClass_of_methodNamed B.named
  have hlocks := B.notSynchronized
  have hW : ∀ w ∈ WA, w.before _ s = true := fun w h => hts w (List.mem_cons_of_mem _ h)
  have hP : va_P D vwCl [((a 0), .inr (7, [.int (Z 12 0), .ref (a 1), .ref (a 2), .ref (a 3), .ref (a 4), .int (Z 12 1), .ref (a 5), .ref (a 6), .ref (a 7), .ref (a 8), .ref (a 9), .int (Z 12 2), .ref (a 10), .int (Z 12 3), .int (Z 12 4), .ref (a 11), .ref (a 12), .long (Y 5 0), .ref (a 13), .ref (a 14), .ref (a 15), .ref (a 16), .ref (a 17)])), ((a 1), eI C 48 (Z 0)), ((a 2), eI C 24 (Z 1)), ((a 3), eZ C 12 (Z 2)), ((a 4), eZ C 12 (Z 3)), ((a 5), eI C 60 (Z 4)), ((a 6), eI C 60 (Z 5)), ((a 7), eI C 60 (Z 6)), ((a 8), eZ C 60 (Z 7)), ((a 9), eZ C 244 (Z 8)), ((a 10), eI C 24 (Z 9)), ((a 11), eJ C 9 (Y 0)), ((a 12), eJ C 9 (Y 1)), ((a 13), eJ C 3 (Y 2)), ((a 14), eJ C 3 (Y 3)), ((a 15), eJ C 12 (Y 4)), ((a 16), eI C 6 (Z 10)), ((a 17), eI C 4 (Z 11))] s.heap := hP
  have hl := lv_entry ([.ref (a 0), .int tool, .int n]) (n := 3) (Nat.le_of_ble_eq_true rfl)
  rw [lg_entry_eq]
  generalize (lg_sl ([.ref (a 0), .int tool, .int n]) ++ List.replicate (3 - (lg_sl ([.ref (a 0), .int tool, .int n])).length) Slot.unset).toArray = ls at hl ⊢
  have hl : lv_has ls 3 [(0, .ref (a 0)), (1, .int tool), (2, .int n)] := hl
  refine lv_iload_n hx hb dX7_state_0 rfl (lv_at hl 1 rfl) ?_
  refine xri (r := f7_isTool tool) (rS (As := [.int tool]) (n := 1) (rest := []) ⟨hx, hb, hml, hown, hW⟩ (kX7_isTool l tool) (wa tw752 rfl) (wa tw750 rfl) (wa tw751 rfl) (wa tw8 rfl) (by decide +kernel) ⟨Nat.le_of_ble_eq_true rfl, Nat.le_of_ble_eq_true rfl⟩ pS0 hl.1 rfl (Nat.le_of_ble_eq_true rfl) dX7_state_1 ⟨Nat.le_of_ble_eq_true rfl, Nat.le_of_ble_eq_true rfl⟩ rfl rfl rfl) ?_
  refine lv_if_ne (tgt := 10) hx hb dX7_state_4 (by decide) (fun c_1 => ?_) (fun c_1 => ?_)
  · obtain ⟨k, hk, rfl⟩ := q_isTool c_1
    have hix_k : ix (nI k) = k := ix_nI (by omega)
    refine lv_iload_n hx hb dX7_state_10 rfl (lv_at hl 2 rfl) ?_
    refine lv_i2l (v := n.toInt64) hx hb dX7_state_11 rfl ?_
    refine lv_lconst (v := 0) hx hb dX7_state_12 (by decide) ?_
    refine lv_aload_n hx hb dX7_state_13 rfl (lv_at hl 0 rfl) ?_
    refine va_get (D := D) (ci := 7) (C := RX7) (T := TX7) (N := 23) hx hb hW inX7 hown hK hP 0 rfl rfl 5 (by decide) (hW _ (wa tw555 rfl)) (fun _ h9 => h9) rfl dX7_state_14 ?_
    refine lv_i2l (v := (Z 12 1).toInt64) hx hb dX7_state_17 rfl ?_
    refine xri (r := f7_in n.toInt64 0 ((Z 12 1).toInt64)) (rS (As := [.long n.toInt64, .long 0, .long ((Z 12 1).toInt64)]) (n := 3) (rest := []) ⟨hx, hb, hml, hown, hW⟩ (kX7_in l n.toInt64 0 ((Z 12 1).toInt64)) (wa tw628 rfl) (wa tw626 rfl) (wa tw627 rfl) (wa tw8 rfl) (by decide +kernel) ⟨Nat.le_of_ble_eq_true rfl, Nat.le_of_ble_eq_true rfl⟩ pS0 hl.1 rfl (Nat.le_of_ble_eq_true rfl) dX7_state_18 ⟨Nat.le_of_ble_eq_true rfl, Nat.le_of_ble_eq_true rfl⟩ rfl rfl rfl) ?_
    refine lv_if_eq (tgt := 33) hx hb dX7_state_21 (by decide) (fun c_2 => ?_) (fun c_2 => ?_)
    · refine lv_ldc hx hb hown (hW _ (wa tw631 rfl)) dX7_state_33 ?_
      exact W.iret (v := (-100002)) hx hb hr (fun t ht _ => ⟨_, rfl, (by simp only [f7_state, if_neg c_1, if_pos c_2, hix_k]), ht⟩) (fun q h => by cases h) dX7_state_35
    · obtain ⟨w, hw, rfl⟩ := q_inC (n := L + 1) (by rw [hL, Int32.toInt_toInt64, nI_toInt (by omega)]; omega) (by omega) c_2
      have hix_w : ix (nI w) = w := ix_nI (by omega)
      refine lv_aload_n hx hb dX7_state_24 rfl (lv_at hl 0 rfl) ?_
      refine lv_iload_n hx hb dX7_state_25 rfl (lv_at hl 1 rfl) ?_
      refine lv_iload_n hx hb dX7_state_26 rfl (lv_at hl 2 rfl) ?_
      refine xri (r := f7_stateOf Z k w) (rV (As := [.int (nI k), .int (nI w)]) (n := 2) (rest := []) ⟨hx, hb, hml, hown, hW⟩ (kX7_stateOf l D C a Z Y k w (by omega) (by omega)) (wa tw775 rfl) (wa tw772 rfl) (wa tw774 rfl) (was ts48 rfl) (wa tw8 rfl) (by decide +kernel) ⟨Nat.le_of_ble_eq_true rfl, Nat.le_of_ble_eq_true rfl⟩ (pVr hP hK hNw 0 rfl rfl) hl.1 rfl (Nat.le_of_ble_eq_true rfl) dX7_state_27 ⟨Nat.le_of_ble_eq_true rfl, Nat.le_of_ble_eq_true rfl⟩ rfl rfl rfl) ?_
      refine lv_goto (tgt := 35) hx hb dX7_state_30 (by decide) ?_
      exact W.iret (v := f7_stateOf Z k w) hx hb hr (fun t ht _ => ⟨_, rfl, (by simp only [f7_state, if_neg c_1, if_neg c_2, hix_k, hix_w]), ht⟩) (fun q h => by cases h) dX7_state_35
  · refine lv_ldc hx hb hown (hW _ (wa tw641 rfl)) dX7_state_7 ?_
    exact W.iret (v := (-100001)) hx hb hr (fun t ht _ => ⟨_, rfl, (by simp only [f7_state, if_pos c_1]), ht⟩) (fun q h => by cases h) dX7_state_9

def f7_advice (Z : Nat → Nat → Int32) (L : Nat) (tool : Int32) : Int32 := (if (f7_isTool tool) = 0 then ((-100001)) else (-((f7_stateOf Z (ix tool) L) / 1000)))
set_option maxHeartbeats 4000000 in
set_option maxRecDepth 100000 in
theorem kX7_advice (l : Launch) (D : va_G) (C : Nat → ClassId) (a : Nat → Nat) (Z : Nat → Nat → Int32) (Y : Nat → Nat → Int64) (tool : Int32) (L : Nat) (hL : Z 12 1 = nI L) (hL60 : L ≤ 60) : Ri l D C yX7_advice cX7_advice 2 .int 2 [.ref (a 0), .int tool] (wZ a C Z Y) (f7_advice Z L tool) := by
  refine Met.ofW (cc := cX7_advice) (maxL := 2) (ret := (some .int)) (by decide) rfl ?_
  intro p e s m args below meth c s₁ B hml hv
  obtain ⟨rfl, hP, hK, hNw⟩ := hv
  have hx := B.exec
  have hb := B.bytes
  have hr := B.returns
  have hts := atoms_spec (ws := wm yX7_advice cX7_advice 2 (some .int)) B.pre
  have hown : s.vm.findClass RX7 = some m.cls := findClass_of_methodNamed B.named
  have hlocks := B.notSynchronized
  have hW : ∀ w ∈ WA, w.before _ s = true := fun w h => hts w (List.mem_cons_of_mem _ h)
  have hP : va_P D vwCl [((a 0), .inr (7, [.int (Z 12 0), .ref (a 1), .ref (a 2), .ref (a 3), .ref (a 4), .int (Z 12 1), .ref (a 5), .ref (a 6), .ref (a 7), .ref (a 8), .ref (a 9), .int (Z 12 2), .ref (a 10), .int (Z 12 3), .int (Z 12 4), .ref (a 11), .ref (a 12), .long (Y 5 0), .ref (a 13), .ref (a 14), .ref (a 15), .ref (a 16), .ref (a 17)])), ((a 1), eI C 48 (Z 0)), ((a 2), eI C 24 (Z 1)), ((a 3), eZ C 12 (Z 2)), ((a 4), eZ C 12 (Z 3)), ((a 5), eI C 60 (Z 4)), ((a 6), eI C 60 (Z 5)), ((a 7), eI C 60 (Z 6)), ((a 8), eZ C 60 (Z 7)), ((a 9), eZ C 244 (Z 8)), ((a 10), eI C 24 (Z 9)), ((a 11), eJ C 9 (Y 0)), ((a 12), eJ C 9 (Y 1)), ((a 13), eJ C 3 (Y 2)), ((a 14), eJ C 3 (Y 3)), ((a 15), eJ C 12 (Y 4)), ((a 16), eI C 6 (Z 10)), ((a 17), eI C 4 (Z 11))] s.heap := hP
  have hl := lv_entry ([.ref (a 0), .int tool]) (n := 2) (Nat.le_of_ble_eq_true rfl)
  rw [lg_entry_eq]
  generalize (lg_sl ([.ref (a 0), .int tool]) ++ List.replicate (2 - (lg_sl ([.ref (a 0), .int tool])).length) Slot.unset).toArray = ls at hl ⊢
  have hl : lv_has ls 2 [(0, .ref (a 0)), (1, .int tool)] := hl
  refine lv_iload_n hx hb dX7_advice_0 rfl (lv_at hl 1 rfl) ?_
  refine xri (r := f7_isTool tool) (rS (As := [.int tool]) (n := 1) (rest := []) ⟨hx, hb, hml, hown, hW⟩ (kX7_isTool l tool) (wa tw752 rfl) (wa tw750 rfl) (wa tw751 rfl) (wa tw8 rfl) (by decide +kernel) ⟨Nat.le_of_ble_eq_true rfl, Nat.le_of_ble_eq_true rfl⟩ pS0 hl.1 rfl (Nat.le_of_ble_eq_true rfl) dX7_advice_1 ⟨Nat.le_of_ble_eq_true rfl, Nat.le_of_ble_eq_true rfl⟩ rfl rfl rfl) ?_
  refine lv_if_eq (tgt := 24) hx hb dX7_advice_4 (by decide) (fun c_1 => ?_) (fun c_1 => ?_)
  · refine lv_ldc hx hb hown (hW _ (wa tw641 rfl)) dX7_advice_24 ?_
    exact W.iret (v := (-100001)) hx hb hr (fun t ht _ => ⟨_, rfl, (by simp only [f7_advice, if_pos c_1]), ht⟩) (fun q h => by cases h) dX7_advice_26
  · obtain ⟨k, hk, rfl⟩ := q_isTool c_1
    have hix_k : ix (nI k) = k := ix_nI (by omega)
    refine lv_aload_n hx hb dX7_advice_7 rfl (lv_at hl 0 rfl) ?_
    refine lv_iload_n hx hb dX7_advice_8 rfl (lv_at hl 1 rfl) ?_
    refine lv_aload_n hx hb dX7_advice_9 rfl (lv_at hl 0 rfl) ?_
    refine va_get (D := D) (ci := 7) (C := RX7) (T := TX7) (N := 23) hx hb hW inX7 hown hK hP 0 rfl rfl 5 (by decide) (hW _ (wa tw555 rfl)) (fun _ h9 => h9) rfl dX7_advice_10 ?_
    refine xtopi (y := nI L) hL ?_
    refine xri (r := f7_stateOf Z k L) (rV (As := [.int (nI k), .int (nI L)]) (n := 2) (rest := []) ⟨hx, hb, hml, hown, hW⟩ (kX7_stateOf l D C a Z Y k L (by omega) (by omega)) (wa tw775 rfl) (wa tw772 rfl) (wa tw774 rfl) (was ts48 rfl) (wa tw8 rfl) (by decide +kernel) ⟨Nat.le_of_ble_eq_true rfl, Nat.le_of_ble_eq_true rfl⟩ (pVr hP hK hNw 0 rfl rfl) hl.1 rfl (Nat.le_of_ble_eq_true rfl) dX7_advice_13 ⟨Nat.le_of_ble_eq_true rfl, Nat.le_of_ble_eq_true rfl⟩ rfl rfl rfl) ?_
    refine lv_sipush (v := 1000) hx hb dX7_advice_16 (by decide) ?_
    refine lv_idiv hx hb dX7_advice_19 (by decide) ?_
    refine lv_ineg hx hb dX7_advice_20 ?_
    refine lv_goto (tgt := 26) hx hb dX7_advice_21 (by decide) ?_
    exact W.iret (v := -((f7_stateOf Z k L) / 1000)) hx hb hr (fun t ht _ => ⟨_, rfl, (by simp only [f7_advice, if_neg c_1, hix_k]), ht⟩) (fun q h => by cases h) dX7_advice_26
