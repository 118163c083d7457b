def soD (off T : Nat → Int32) (k : Nat) : Int32 := off (6 * ix (T k) + k) - off (6 * ix (T (k - 1)) + k - 1)
def soA (off T : Nat → Int32) (k : Nat) : Int32 := if 0 ≤ soD off T k then soD off T k else -(soD off T k)
def soL (off T : Nat → Int32) (bud cap : Int32) : Nat → Nat → Int32 → (Nat → Int32) → Int32 × (Nat → Int32)
  | 0, _, x, V => (x, V)
  | n + 1, k, x, V => if (upd V (ix (T k)) (V (ix (T k)) + 1)) (ix (T k)) ≤ cap then (if nI k ≤ 0 then soL off T bud cap n (k + 1) x (upd V (ix (T k)) (V (ix (T k)) + 1)) else if soA off T k ≤ bud then soL off T bud cap n (k + 1) (x + soA off T k) (upd V (ix (T k)) (V (ix (T k)) + 1)) else (-1, (upd V (ix (T k)) (V (ix (T k)) + 1)))) else (-1, (upd V (ix (T k)) (V (ix (T k)) + 1)))
def soZ : Nat → Nat → (Nat → Int32) → Nat → Int32
  | 0, _, V => V
  | n + 1, k, V => soZ n (k + 1) (upd V k 0)
def f7_sumOf (off T : Nat → Int32) (bud cap : Int32) (n : Nat) (V : Nat → Int32) : Int32 × (Nat → Int32) := soL off T bud cap n 0 0 (soZ 4 0 V)

set_option maxHeartbeats 4000000 in
set_option maxRecDepth 100000 in
theorem kX7_sumOf (l : Launch) (D : va_G) (C : Nat → ClassId) (a : Nat → Nat) (Z : Nat → Nat → Int32) (Y : Nat → Nat → Int64) (n : Nat) (sz : Nat) (hn6 : n ≤ 6) (hT : ∀ k, k < n → Z 10 k = nI (ix (Z 10 k)) ∧ ix (Z 10 k) < 4) : Wi l D C yX7_sumOf cX7_sumOf 5 .int 0 [.ref (a 0), .int (nI n)] (wZ a C Z Y) ((wZ a C (uM Z 11 ((f7_sumOf (Z 9) (Z 10) (Z 12 3) (Z 12 4) n (Z 11)).2)) Y)) ((f7_sumOf (Z 9) (Z 10) (Z 12 3) (Z 12 4) n (Z 11)).1) sz := by
  refine Met.ofW (cc := cX7_sumOf) (maxL := 5) (ret := (some .int)) (by decide) rfl ?_
  intro p e s m args below meth c s₁ B hml hv
  obtain ⟨rfl, hsz, hP, hK, hNw, hD0⟩ := hv
  have hx := B.exec
  have hb := B.bytes
  have hr := B.returns
  have hts := atoms_spec (ws := wm yX7_sumOf cX7_sumOf 5 (some .int)) B.pre
  have hown : s.vm.findClass RX7 = some m.cls := findClass_of_methodNamed B.named
  have hlocks := B.notSynchronized
  have hW : ∀ w ∈ WA, w.before _ s = true := fun w h => hts w (List.mem_cons_of_mem _ h)
  subst hsz
  have hD := hD0.self (sz := s.heap.size)
  generalize hAe : va_A (wZ a C Z Y) s.heap.size = A at hD ⊢
  have hA : ∀ q : Nat, s.heap.size ≤ q → A q := fun q h => by rw [← hAe]; exact Or.inr h
  have hS : va_S A s.heap s.heap [] := va_S.rf
  have hP : va_P D vwCl [((a 0), .inr (7, [.int (Z 12 0), .ref (a 1), .ref (a 2), .ref (a 3), .ref (a 4), .int (Z 12 1), .ref (a 5), .ref (a 6), .ref (a 7), .ref (a 8), .ref (a 9), .int (Z 12 2), .ref (a 10), .int (Z 12 3), .int (Z 12 4), .ref (a 11), .ref (a 12), .long (Y 5 0), .ref (a 13), .ref (a 14), .ref (a 15), .ref (a 16), .ref (a 17)])), ((a 1), eI C 48 (Z 0)), ((a 2), eI C 24 (Z 1)), ((a 3), eZ C 12 (Z 2)), ((a 4), eZ C 12 (Z 3)), ((a 5), eI C 60 (Z 4)), ((a 6), eI C 60 (Z 5)), ((a 7), eI C 60 (Z 6)), ((a 8), eZ C 60 (Z 7)), ((a 9), eZ C 244 (Z 8)), ((a 10), eI C 24 (Z 9)), ((a 11), eJ C 9 (Y 0)), ((a 12), eJ C 9 (Y 1)), ((a 13), eJ C 3 (Y 2)), ((a 14), eJ C 3 (Y 3)), ((a 15), eJ C 12 (Y 4)), ((a 16), eI C 6 (Z 10)), ((a 17), eI C 4 (Z 11))] s.heap := hP
  have hD : va_D A [((a 0), .inr (7, [.int (Z 12 0), .ref (a 1), .ref (a 2), .ref (a 3), .ref (a 4), .int (Z 12 1), .ref (a 5), .ref (a 6), .ref (a 7), .ref (a 8), .ref (a 9), .int (Z 12 2), .ref (a 10), .int (Z 12 3), .int (Z 12 4), .ref (a 11), .ref (a 12), .long (Y 5 0), .ref (a 13), .ref (a 14), .ref (a 15), .ref (a 16), .ref (a 17)])), ((a 1), eI C 48 (Z 0)), ((a 2), eI C 24 (Z 1)), ((a 3), eZ C 12 (Z 2)), ((a 4), eZ C 12 (Z 3)), ((a 5), eI C 60 (Z 4)), ((a 6), eI C 60 (Z 5)), ((a 7), eI C 60 (Z 6)), ((a 8), eZ C 60 (Z 7)), ((a 9), eZ C 244 (Z 8)), ((a 10), eI C 24 (Z 9)), ((a 11), eJ C 9 (Y 0)), ((a 12), eJ C 9 (Y 1)), ((a 13), eJ C 3 (Y 2)), ((a 14), eJ C 3 (Y 3)), ((a 15), eJ C 12 (Y 4)), ((a 16), eI C 6 (Z 10)), ((a 17), eI C 4 (Z 11))] := hD
  have hl := lv_entry ([.ref (a 0), .int (nI n)]) (n := 5) (Nat.le_of_ble_eq_true rfl)
  rw [lg_entry_eq]
  generalize (lg_sl ([.ref (a 0), .int (nI n)]) ++ List.replicate (5 - (lg_sl ([.ref (a 0), .int (nI n)])).length) Slot.unset).toArray = ls at hl ⊢
  have hl : lv_has ls 5 [(0, .ref (a 0)), (1, .int (nI n))] := hl
  refine lv_iconst (v := 0) hx hb dX7_sumOf_0 (by decide) ?_
  refine lv_istore_n (lv' := [(2, .int 0), (0, .ref (a 0)), (1, .int (nI n))]) hx hb dX7_sumOf_1 rfl hl (by decide) rfl (fun ls hl => ?_)
  refine lv_iconst (v := 0) hx hb dX7_sumOf_2 (by decide) ?_
  refine lv_istore_n (lv' := [(3, .int 0), (2, .int 0), (0, .ref (a 0)), (1, .int (nI n))]) hx hb dX7_sumOf_3 rfl hl (by decide) rfl (fun ls hl => ?_)
  refine xgen hP hS (fun H locs hP hS => ?_)
  obtain ⟨n4, k, V1, hinv⟩ : ∃ (n4 : Nat) (k : Nat) (V1 : Nat → Int32), (k + n4 = 4) ∧ (soZ n4 k V1 = soZ 4 0 (Z 11)) ∧ lv_has ls 5 [(0, .ref (a 0)), (1, .int (nI n)), (2, .int 0), (3, .int (nI k))] ∧ va_P D vwCl [((a 0), .inr (7, [.int (Z 12 0), .ref (a 1), .ref (a 2), .ref (a 3), .ref (a 4), .int (Z 12 1), .ref (a 5), .ref (a 6), .ref (a 7), .ref (a 8), .ref (a 9), .int (Z 12 2), .ref (a 10), .int (Z 12 3), .int (Z 12 4), .ref (a 11), .ref (a 12), .long (Y 5 0), .ref (a 13), .ref (a 14), .ref (a 15), .ref (a 16), .ref (a 17)])), ((a 1), eI C 48 (Z 0)), ((a 2), eI C 24 (Z 1)), ((a 3), eZ C 12 (Z 2)), ((a 4), eZ C 12 (Z 3)), ((a 5), eI C 60 (Z 4)), ((a 6), eI C 60 (Z 5)), ((a 7), eI C 60 (Z 6)), ((a 8), eZ C 60 (Z 7)), ((a 9), eZ C 244 (Z 8)), ((a 10), eI C 24 (Z 9)), ((a 11), eJ C 9 (Y 0)), ((a 12), eJ C 9 (Y 1)), ((a 13), eJ C 3 (Y 2)), ((a 14), eJ C 3 (Y 3)), ((a 15), eJ C 12 (Y 4)), ((a 16), eI C 6 (Z 10)), ((a 17), eI C 4 V1)] H ∧ va_D A [((a 0), .inr (7, [.int (Z 12 0), .ref (a 1), .ref (a 2), .ref (a 3), .ref (a 4), .int (Z 12 1), .ref (a 5), .ref (a 6), .ref (a 7), .ref (a 8), .ref (a 9), .int (Z 12 2), .ref (a 10), .int (Z 12 3), .int (Z 12 4), .ref (a 11), .ref (a 12), .long (Y 5 0), .ref (a 13), .ref (a 14), .ref (a 15), .ref (a 16), .ref (a 17)])), ((a 1), eI C 48 (Z 0)), ((a 2), eI C 24 (Z 1)), ((a 3), eZ C 12 (Z 2)), ((a 4), eZ C 12 (Z 3)), ((a 5), eI C 60 (Z 4)), ((a 6), eI C 60 (Z 5)), ((a 7), eI C 60 (Z 6)), ((a 8), eZ C 60 (Z 7)), ((a 9), eZ C 244 (Z 8)), ((a 10), eI C 24 (Z 9)), ((a 11), eJ C 9 (Y 0)), ((a 12), eJ C 9 (Y 1)), ((a 13), eJ C 3 (Y 2)), ((a 14), eJ C 3 (Y 3)), ((a 15), eJ C 12 (Y 4)), ((a 16), eI C 6 (Z 10)), ((a 17), eI C 4 V1)] ∧ va_S A s.heap H locs := ⟨4, 0, (Z 11), rfl, rfl, lv_sub hl [2, 3, 1, 0] rfl, hP, hD, hS⟩
  clear hl hP hD hS
  induction n4 generalizing k V1 ls H locs with
  | zero =>
    obtain ⟨h4_0, h4_1, hl, hP, hD, hS⟩ := hinv
    refine lv_iload_n hx hb dX7_sumOf_4 rfl (lv_at hl 3 rfl) ?_
    refine lv_iconst (v := 4) hx hb dX7_sumOf_5 (by decide) ?_
    refine lv_icmp_ge (tgt := 22) hx hb dX7_sumOf_6 (by decide) (fun c_1 => ?_) (fun c_1 => ?_)
    · have e_V1 : V1 = soZ 4 0 (Z 11) := h4_1
      subst e_V1
      refine lv_iconst (v := 0) hx hb dX7_sumOf_22 (by decide) ?_
      refine lv_istore_n (lv' := [(3, .int 0), (0, .ref (a 0)), (1, .int (nI n)), (2, .int 0)]) hx hb dX7_sumOf_23 rfl hl (by decide) rfl (fun ls hl => ?_)
      refine xgen hP hS (fun H locs hP hS => ?_)
      obtain ⟨n24, k, x, V2, hinv⟩ : ∃ (n24 : Nat) (k : Nat) (x : Int32) (V2 : Nat → Int32), (k + n24 = n) ∧ (soL (Z 9) (Z 10) (Z 12 3) (Z 12 4) n24 k x V2 = (f7_sumOf (Z 9) (Z 10) (Z 12 3) (Z 12 4) n (Z 11))) ∧ lv_has ls 5 [(0, .ref (a 0)), (1, .int (nI n)), (2, .int x), (3, .int (nI k))] ∧ va_P D vwCl [((a 0), .inr (7, [.int (Z 12 0), .ref (a 1), .ref (a 2), .ref (a 3), .ref (a 4), .int (Z 12 1), .ref (a 5), .ref (a 6), .ref (a 7), .ref (a 8), .ref (a 9), .int (Z 12 2), .ref (a 10), .int (Z 12 3), .int (Z 12 4), .ref (a 11), .ref (a 12), .long (Y 5 0), .ref (a 13), .ref (a 14), .ref (a 15), .ref (a 16), .ref (a 17)])), ((a 1), eI C 48 (Z 0)), ((a 2), eI C 24 (Z 1)), ((a 3), eZ C 12 (Z 2)), ((a 4), eZ C 12 (Z 3)), ((a 5), eI C 60 (Z 4)), ((a 6), eI C 60 (Z 5)), ((a 7), eI C 60 (Z 6)), ((a 8), eZ C 60 (Z 7)), ((a 9), eZ C 244 (Z 8)), ((a 10), eI C 24 (Z 9)), ((a 11), eJ C 9 (Y 0)), ((a 12), eJ C 9 (Y 1)), ((a 13), eJ C 3 (Y 2)), ((a 14), eJ C 3 (Y 3)), ((a 15), eJ C 12 (Y 4)), ((a 16), eI C 6 (Z 10)), ((a 17), eI C 4 V2)] H ∧ va_D A [((a 0), .inr (7, [.int (Z 12 0), .ref (a 1), .ref (a 2), .ref (a 3), .ref (a 4), .int (Z 12 1), .ref (a 5), .ref (a 6), .ref (a 7), .ref (a 8), .ref (a 9), .int (Z 12 2), .ref (a 10), .int (Z 12 3), .int (Z 12 4), .ref (a 11), .ref (a 12), .long (Y 5 0), .ref (a 13), .ref (a 14), .ref (a 15), .ref (a 16), .ref (a 17)])), ((a 1), eI C 48 (Z 0)), ((a 2), eI C 24 (Z 1)), ((a 3), eZ C 12 (Z 2)), ((a 4), eZ C 12 (Z 3)), ((a 5), eI C 60 (Z 4)), ((a 6), eI C 60 (Z 5)), ((a 7), eI C 60 (Z 6)), ((a 8), eZ C 60 (Z 7)), ((a 9), eZ C 244 (Z 8)), ((a 10), eI C 24 (Z 9)), ((a 11), eJ C 9 (Y 0)), ((a 12), eJ C 9 (Y 1)), ((a 13), eJ C 3 (Y 2)), ((a 14), eJ C 3 (Y 3)), ((a 15), eJ C 12 (Y 4)), ((a 16), eI C 6 (Z 10)), ((a 17), eI C 4 V2)] ∧ va_S A s.heap H locs := ⟨n, 0, 0, (soZ 4 0 (Z 11)), by omega, rfl, lv_sub hl [1, 2, 3, 0] rfl, hP, hD, hS⟩
      clear hl hP hD hS
      induction n24 generalizing k x V2 ls H locs with
      | zero =>
        obtain ⟨h24_0, h24_1, hl, hP, hD, hS⟩ := hinv
        refine lv_iload_n hx hb dX7_sumOf_24 rfl (lv_at hl 3 rfl) ?_
        refine lv_iload_n hx hb dX7_sumOf_25 rfl (lv_at hl 1 rfl) ?_
        refine lv_icmp_ge (tgt := 144) hx hb dX7_sumOf_26 (by decide) (fun c_2 => ?_) (fun c_2 => ?_)
        · refine lv_iload_n hx hb dX7_sumOf_144 rfl (lv_at hl 2 rfl) ?_
          have hb_0 : (f7_sumOf (Z 9) (Z 10) (Z 12 3) (Z 12 4) n (Z 11)).2 = V2 := by rw [← h24_1]; rfl
          have hP9 : va_P D vwCl ((wZ a C (uM Z 11 ((f7_sumOf (Z 9) (Z 10) (Z 12 3) (Z 12 4) n (Z 11)).2)) Y)) H := by rw [hb_0]; exact hP
          have hD9 : va_D A ((wZ a C (uM Z 11 ((f7_sumOf (Z 9) (Z 10) (Z 12 3) (Z 12 4) n (Z 11)).2)) Y)) := by rw [hb_0]; exact hD
          exact W.iret (v := x) hx hb hr (fun t ht _ => ⟨⟨_, (), rfl, (by rw [← h24_1]; rfl), ⟨by rw [ht]; exact hP9, by rw [hAe]; exact hD9⟩⟩, hS.F ht⟩) hS.2.2 dX7_sumOf_145
        · exact absurd (q_le rfl rfl (by omega) (by omega)) c_2
      | succ n24 ih24 =>
        obtain ⟨h24_0, h24_1, hl, hP, hD, hS⟩ := hinv
        refine lv_iload_n hx hb dX7_sumOf_24 rfl (lv_at hl 3 rfl) ?_
        refine lv_iload_n hx hb dX7_sumOf_25 rfl (lv_at hl 1 rfl) ?_
        refine lv_icmp_ge (tgt := 144) hx hb dX7_sumOf_26 (by decide) (fun c_3 => ?_) (fun c_3 => ?_)
        · exact absurd c_3 (q_nle rfl rfl (by omega) (by omega))
        · have hT1 := (hT k (by omega)).2
          refine lv_aload_n hx hb dX7_sumOf_29 rfl (lv_at hl 0 rfl) ?_
          refine va_get (D := D) (ci := 7) (C := RX7) (T := TX7) (N := 23) hx hb hW inX7 hown hK hP 0 rfl rfl 22 (by decide) (hW _ (wa tw572 rfl)) (fun _ h9 => h9) rfl dX7_sumOf_30 ?_
          refine lv_aload_n hx hb dX7_sumOf_33 rfl (lv_at hl 0 rfl) ?_
          refine va_get (D := D) (ci := 7) (C := RX7) (T := TX7) (N := 23) hx hb hW inX7 hown hK hP 0 rfl rfl 21 (by decide) (hW _ (wa tw571 rfl)) (fun _ h9 => h9) rfl dX7_sumOf_34 ?_
          refine lv_iload_n hx hb dX7_sumOf_37 rfl (lv_at hl 3 rfl) ?_
          refine xiald hx hb hK hP 16 rfl k rfl (by omega) (by decide) dX7_sumOf_38 ?_
          refine lv_dup2_11 hx hb dX7_sumOf_39 rfl rfl ?_
          refine xiald hx hb hK hP 17 rfl (ix (Z 10 k)) (hT k (by omega)).1 (by omega) (by decide) dX7_sumOf_40 ?_
          refine lv_iconst (v := 1) hx hb dX7_sumOf_41 (by decide) ?_
          refine lv_iadd hx hb dX7_sumOf_42 ?_
          refine xiast hx hb hK hP hD hS 17 rfl (ix (Z 10 k)) (hT k (by omega)).1 (by omega) (by decide) dX7_sumOf_43 (fun H locs hP hD hS => ?_)
          have hP : va_P D vwCl [((a 0), .inr (7, [.int (Z 12 0), .ref (a 1), .ref (a 2), .ref (a 3), .ref (a 4), .int (Z 12 1), .ref (a 5), .ref (a 6), .ref (a 7), .ref (a 8), .ref (a 9), .int (Z 12 2), .ref (a 10), .int (Z 12 3), .int (Z 12 4), .ref (a 11), .ref (a 12), .long (Y 5 0), .ref (a 13), .ref (a 14), .ref (a 15), .ref (a 16), .ref (a 17)])), ((a 1), eI C 48 (Z 0)), ((a 2), eI C 24 (Z 1)), ((a 3), eZ C 12 (Z 2)), ((a 4), eZ C 12 (Z 3)), ((a 5), eI C 60 (Z 4)), ((a 6), eI C 60 (Z 5)), ((a 7), eI C 60 (Z 6)), ((a 8), eZ C 60 (Z 7)), ((a 9), eZ C 244 (Z 8)), ((a 10), eI C 24 (Z 9)), ((a 11), eJ C 9 (Y 0)), ((a 12), eJ C 9 (Y 1)), ((a 13), eJ C 3 (Y 2)), ((a 14), eJ C 3 (Y 3)), ((a 15), eJ C 12 (Y 4)), ((a 16), eI C 6 (Z 10)), ((a 17), eI C 4 (upd V2 (ix (Z 10 k)) ((V2 (ix (Z 10 k))) + 1)))] H := hP
          have hD : va_D A [((a 0), .inr (7, [.int (Z 12 0), .ref (a 1), .ref (a 2), .ref (a 3), .ref (a 4), .int (Z 12 1), .ref (a 5), .ref (a 6), .ref (a 7), .ref (a 8), .ref (a 9), .int (Z 12 2), .ref (a 10), .int (Z 12 3), .int (Z 12 4), .ref (a 11), .ref (a 12), .long (Y 5 0), .ref (a 13), .ref (a 14), .ref (a 15), .ref (a 16), .ref (a 17)])), ((a 1), eI C 48 (Z 0)), ((a 2), eI C 24 (Z 1)), ((a 3), eZ C 12 (Z 2)), ((a 4), eZ C 12 (Z 3)), ((a 5), eI C 60 (Z 4)), ((a 6), eI C 60 (Z 5)), ((a 7), eI C 60 (Z 6)), ((a 8), eZ C 60 (Z 7)), ((a 9), eZ C 244 (Z 8)), ((a 10), eI C 24 (Z 9)), ((a 11), eJ C 9 (Y 0)), ((a 12), eJ C 9 (Y 1)), ((a 13), eJ C 3 (Y 2)), ((a 14), eJ C 3 (Y 3)), ((a 15), eJ C 12 (Y 4)), ((a 16), eI C 6 (Z 10)), ((a 17), eI C 4 (upd V2 (ix (Z 10 k)) ((V2 (ix (Z 10 k))) + 1)))] := hD
          refine lv_aload_n hx hb dX7_sumOf_44 rfl (lv_at hl 0 rfl) ?_
          refine va_get (D := D) (ci := 7) (C := RX7) (T := TX7) (N := 23) hx hb hW inX7 hown hK hP 0 rfl rfl 22 (by decide) (hW _ (wa tw572 rfl)) (fun _ h9 => h9) rfl dX7_sumOf_45 ?_
          refine lv_aload_n hx hb dX7_sumOf_48 rfl (lv_at hl 0 rfl) ?_
          refine va_get (D := D) (ci := 7) (C := RX7) (T := TX7) (N := 23) hx hb hW inX7 hown hK hP 0 rfl rfl 21 (by decide) (hW _ (wa tw571 rfl)) (fun _ h9 => h9) rfl dX7_sumOf_49 ?_
          refine lv_iload_n hx hb dX7_sumOf_52 rfl (lv_at hl 3 rfl) ?_
          refine xiald hx hb hK hP 16 rfl k rfl (by omega) (by decide) dX7_sumOf_53 ?_
          refine xiald hx hb hK hP 17 rfl (ix (Z 10 k)) (hT k (by omega)).1 (by omega) (by decide) dX7_sumOf_54 ?_
          refine lv_aload_n hx hb dX7_sumOf_55 rfl (lv_at hl 0 rfl) ?_
          refine va_get (D := D) (ci := 7) (C := RX7) (T := TX7) (N := 23) hx hb hW inX7 hown hK hP 0 rfl rfl 14 (by decide) (hW _ (wa tw564 rfl)) (fun _ h9 => h9) rfl dX7_sumOf_56 ?_
          refine lv_icmp_le (tgt := 64) hx hb dX7_sumOf_59 (by decide) (fun c_4 => ?_) (fun c_4 => ?_)
          · refine lv_iload_n hx hb dX7_sumOf_64 rfl (lv_at hl 3 rfl) ?_
            refine lv_if_le (tgt := 138) hx hb dX7_sumOf_65 (by decide) (fun c_5 => ?_) (fun c_5 => ?_)
            · refine lv_iinc (v := nI k + 1) (lv' := [(3, .int (nI k + 1)), (0, .ref (a 0)), (1, .int (nI n)), (2, .int x)]) hx hb dX7_sumOf_138 hl (k := 3) rfl rfl (by decide) rfl (fun ls hl => ?_)
              refine lv_goto (tgt := 24) hx hb dX7_sumOf_141 (by decide) ?_
              rw [nI_1] at hl
              exact ih24 (k := k + 1) (x := x) (V2 := (upd V2 (ix (Z 10 k)) ((V2 (ix (Z 10 k))) + 1))) (ls := ls) (H := H) (locs := locs) ⟨by omega, by rw [← h24_1, soL]; simp only [if_pos c_4, if_pos c_5], lv_sub hl [1, 2, 3, 0] rfl, hP, hD, hS⟩
            · have hk0 : 0 < k := by rcases Nat.eq_zero_or_pos k with q | q; (subst q; exact absurd (by decide) c_5); exact q
              have hT2 := (hT (k - 1) (by omega)).2
              refine lv_aload_n hx hb dX7_sumOf_68 rfl (lv_at hl 0 rfl) ?_
              refine va_get (D := D) (ci := 7) (C := RX7) (T := TX7) (N := 23) hx hb hW inX7 hown hK hP 0 rfl rfl 12 (by decide) (hW _ (wa tw562 rfl)) (fun _ h9 => h9) rfl dX7_sumOf_69 ?_
              refine lv_bipush (v := 6) hx hb dX7_sumOf_72 (by decide) ?_
              refine lv_aload_n hx hb dX7_sumOf_74 rfl (lv_at hl 0 rfl) ?_
              refine va_get (D := D) (ci := 7) (C := RX7) (T := TX7) (N := 23) hx hb hW inX7 hown hK hP 0 rfl rfl 21 (by decide) (hW _ (wa tw571 rfl)) (fun _ h9 => h9) rfl dX7_sumOf_75 ?_
              refine lv_iload_n hx hb dX7_sumOf_78 rfl (lv_at hl 3 rfl) ?_
              refine xiald hx hb hK hP 16 rfl k rfl (by omega) (by decide) dX7_sumOf_79 ?_
              refine lv_imul hx hb dX7_sumOf_80 ?_
              refine lv_iload_n hx hb dX7_sumOf_81 rfl (lv_at hl 3 rfl) ?_
              refine lv_iadd hx hb dX7_sumOf_82 ?_
              refine xiald hx hb hK hP 10 rfl ((6 * (ix (Z 10 k))) + k) (q_add (q_mul (nI_lit 6) (hT k (by omega)).1) rfl) (by omega) (by decide) dX7_sumOf_83 ?_
              refine lv_aload_n hx hb dX7_sumOf_84 rfl (lv_at hl 0 rfl) ?_
              refine va_get (D := D) (ci := 7) (C := RX7) (T := TX7) (N := 23) hx hb hW inX7 hown hK hP 0 rfl rfl 12 (by decide) (hW _ (wa tw562 rfl)) (fun _ h9 => h9) rfl dX7_sumOf_85 ?_
              refine lv_bipush (v := 6) hx hb dX7_sumOf_88 (by decide) ?_
              refine lv_aload_n hx hb dX7_sumOf_90 rfl (lv_at hl 0 rfl) ?_
              refine va_get (D := D) (ci := 7) (C := RX7) (T := TX7) (N := 23) hx hb hW inX7 hown hK hP 0 rfl rfl 21 (by decide) (hW _ (wa tw571 rfl)) (fun _ h9 => h9) rfl dX7_sumOf_91 ?_
              refine lv_iload_n hx hb dX7_sumOf_94 rfl (lv_at hl 3 rfl) ?_
              refine lv_iconst (v := 1) hx hb dX7_sumOf_95 (by decide) ?_
              refine lv_isub hx hb dX7_sumOf_96 ?_
              refine xiald hx hb hK hP 16 rfl (k - 1) (q_sub rfl (nI_lit 1) (by omega)) (by omega) (by decide) dX7_sumOf_97 ?_
              refine lv_imul hx hb dX7_sumOf_98 ?_
              refine lv_iload_n hx hb dX7_sumOf_99 rfl (lv_at hl 3 rfl) ?_
              refine lv_iadd hx hb dX7_sumOf_100 ?_
              refine lv_iconst (v := 1) hx hb dX7_sumOf_101 (by decide) ?_
              refine lv_isub hx hb dX7_sumOf_102 ?_
              refine xiald hx hb hK hP 10 rfl (((6 * (ix (Z 10 (k - 1)))) + k) - 1) (q_sub (q_add (q_mul (nI_lit 6) (hT (k - 1) (by omega)).1) rfl) (nI_lit 1) (by omega)) (by omega) (by decide) dX7_sumOf_103 ?_
              refine lv_isub hx hb dX7_sumOf_104 ?_
              refine lv_istore (lv' := [(4, .int (((Z 9) ((6 * (ix (Z 10 k))) + k)) - ((Z 9) (((6 * (ix (Z 10 (k - 1)))) + k) - 1)))), (0, .ref (a 0)), (1, .int (nI n)), (2, .int x), (3, .int (nI k))]) hx hb dX7_sumOf_105 hl (by decide) rfl (fun ls hl => ?_)
              refine lv_iload hx hb dX7_sumOf_107 (lv_at hl 0 rfl) ?_
              refine lv_if_ge (tgt := 118) hx hb dX7_sumOf_109 (by decide) (fun c_6 => ?_) (fun c_6 => ?_)
              · refine lv_iload hx hb dX7_sumOf_118 (lv_at hl 0 rfl) ?_
                refine lv_istore (lv' := [(4, .int (((Z 9) ((6 * (ix (Z 10 k))) + k)) - ((Z 9) (((6 * (ix (Z 10 (k - 1)))) + k) - 1)))), (0, .ref (a 0)), (1, .int (nI n)), (2, .int x), (3, .int (nI k))]) hx hb dX7_sumOf_120 hl (by decide) rfl (fun ls hl => ?_)
                refine lv_iload hx hb dX7_sumOf_122 (lv_at hl 0 rfl) ?_
                refine lv_aload_n hx hb dX7_sumOf_124 rfl (lv_at hl 1 rfl) ?_
                refine va_get (D := D) (ci := 7) (C := RX7) (T := TX7) (N := 23) hx hb hW inX7 hown hK hP 0 rfl rfl 13 (by decide) (hW _ (wa tw563 rfl)) (fun _ h9 => h9) rfl dX7_sumOf_125 ?_
                refine lv_icmp_le (tgt := 133) hx hb dX7_sumOf_128 (by decide) (fun c_7 => ?_) (fun c_7 => ?_)
                · refine lv_iload_n hx hb dX7_sumOf_133 rfl (lv_at hl 3 rfl) ?_
                  refine lv_iload hx hb dX7_sumOf_134 (lv_at hl 0 rfl) ?_
                  refine lv_iadd hx hb dX7_sumOf_136 ?_
                  refine lv_istore_n (lv' := [(2, .int (x + (((Z 9) ((6 * (ix (Z 10 k))) + k)) - ((Z 9) (((6 * (ix (Z 10 (k - 1)))) + k) - 1))))), (4, .int (((Z 9) ((6 * (ix (Z 10 k))) + k)) - ((Z 9) (((6 * (ix (Z 10 (k - 1)))) + k) - 1)))), (0, .ref (a 0)), (1, .int (nI n)), (3, .int (nI k))]) hx hb dX7_sumOf_137 rfl hl (by decide) rfl (fun ls hl => ?_)
                  refine lv_iinc (v := nI k + 1) (lv' := [(3, .int (nI k + 1)), (2, .int (x + (((Z 9) ((6 * (ix (Z 10 k))) + k)) - ((Z 9) (((6 * (ix (Z 10 (k - 1)))) + k) - 1))))), (4, .int (((Z 9) ((6 * (ix (Z 10 k))) + k)) - ((Z 9) (((6 * (ix (Z 10 (k - 1)))) + k) - 1)))), (0, .ref (a 0)), (1, .int (nI n))]) hx hb dX7_sumOf_138 hl (k := 4) rfl rfl (by decide) rfl (fun ls hl => ?_)
                  refine lv_goto (tgt := 24) hx hb dX7_sumOf_141 (by decide) ?_
                  have hd : soA (Z 9) (Z 10) k = (((Z 9) ((6 * (ix (Z 10 k))) + k)) - ((Z 9) (((6 * (ix (Z 10 (k - 1)))) + k) - 1))) := if_pos c_6
                  rw [nI_1] at hl
                  exact ih24 (k := k + 1) (x := (x + (((Z 9) ((6 * (ix (Z 10 k))) + k)) - ((Z 9) (((6 * (ix (Z 10 (k - 1)))) + k) - 1))))) (V2 := (upd V2 (ix (Z 10 k)) ((V2 (ix (Z 10 k))) + 1))) (ls := ls) (H := H) (locs := locs) ⟨by omega, by rw [← h24_1, soL]; simp only [hd, if_pos c_4, if_neg c_5, if_pos c_6, if_pos c_7], lv_sub hl [3, 4, 1, 0] rfl, hP, hD, hS⟩
                · refine lv_iconst (v := (-1)) hx hb dX7_sumOf_131 (by decide) ?_
                  have hd : soA (Z 9) (Z 10) k = (((Z 9) ((6 * (ix (Z 10 k))) + k)) - ((Z 9) (((6 * (ix (Z 10 (k - 1)))) + k) - 1))) := if_pos c_6
                  have hSO : (f7_sumOf (Z 9) (Z 10) (Z 12 3) (Z 12 4) n (Z 11)) = ((-1), upd V2 (ix (Z 10 k)) ((V2 (ix (Z 10 k))) + 1)) := by rw [← h24_1, soL]; simp only [hd, if_pos c_4, if_neg c_5, if_pos c_6, if_neg c_7]
                  have hb_0 : (f7_sumOf (Z 9) (Z 10) (Z 12 3) (Z 12 4) n (Z 11)).2 = upd V2 (ix (Z 10 k)) ((V2 (ix (Z 10 k))) + 1) := by rw [hSO]
                  have hP9 : va_P D vwCl ((wZ a C (uM Z 11 ((f7_sumOf (Z 9) (Z 10) (Z 12 3) (Z 12 4) n (Z 11)).2)) Y)) H := by rw [hb_0]; exact hP
                  have hD9 : va_D A ((wZ a C (uM Z 11 ((f7_sumOf (Z 9) (Z 10) (Z 12 3) (Z 12 4) n (Z 11)).2)) Y)) := by rw [hb_0]; exact hD
                  exact W.iret (v := (-1)) hx hb hr (fun t ht _ => ⟨⟨_, (), rfl, (by rw [hSO]), ⟨by rw [ht]; exact hP9, by rw [hAe]; exact hD9⟩⟩, hS.F ht⟩) hS.2.2 dX7_sumOf_132
              · refine lv_iload hx hb dX7_sumOf_112 (lv_at hl 0 rfl) ?_
                refine lv_ineg hx hb dX7_sumOf_114 ?_
                refine lv_goto (tgt := 120) hx hb dX7_sumOf_115 (by decide) ?_
                refine lv_istore (lv' := [(4, .int (-(((Z 9) ((6 * (ix (Z 10 k))) + k)) - ((Z 9) (((6 * (ix (Z 10 (k - 1)))) + k) - 1))))), (0, .ref (a 0)), (1, .int (nI n)), (2, .int x), (3, .int (nI k))]) hx hb dX7_sumOf_120 hl (by decide) rfl (fun ls hl => ?_)
                refine lv_iload hx hb dX7_sumOf_122 (lv_at hl 0 rfl) ?_
                refine lv_aload_n hx hb dX7_sumOf_124 rfl (lv_at hl 1 rfl) ?_
                refine va_get (D := D) (ci := 7) (C := RX7) (T := TX7) (N := 23) hx hb hW inX7 hown hK hP 0 rfl rfl 13 (by decide) (hW _ (wa tw563 rfl)) (fun _ h9 => h9) rfl dX7_sumOf_125 ?_
                refine lv_icmp_le (tgt := 133) hx hb dX7_sumOf_128 (by decide) (fun c_8 => ?_) (fun c_8 => ?_)
                · refine lv_iload_n hx hb dX7_sumOf_133 rfl (lv_at hl 3 rfl) ?_
                  refine lv_iload hx hb dX7_sumOf_134 (lv_at hl 0 rfl) ?_
                  refine lv_iadd hx hb dX7_sumOf_136 ?_
                  refine lv_istore_n (lv' := [(2, .int (x + (-(((Z 9) ((6 * (ix (Z 10 k))) + k)) - ((Z 9) (((6 * (ix (Z 10 (k - 1)))) + k) - 1)))))), (4, .int (-(((Z 9) ((6 * (ix (Z 10 k))) + k)) - ((Z 9) (((6 * (ix (Z 10 (k - 1)))) + k) - 1))))), (0, .ref (a 0)), (1, .int (nI n)), (3, .int (nI k))]) hx hb dX7_sumOf_137 rfl hl (by decide) rfl (fun ls hl => ?_)
                  refine lv_iinc (v := nI k + 1) (lv' := [(3, .int (nI k + 1)), (2, .int (x + (-(((Z 9) ((6 * (ix (Z 10 k))) + k)) - ((Z 9) (((6 * (ix (Z 10 (k - 1)))) + k) - 1)))))), (4, .int (-(((Z 9) ((6 * (ix (Z 10 k))) + k)) - ((Z 9) (((6 * (ix (Z 10 (k - 1)))) + k) - 1))))), (0, .ref (a 0)), (1, .int (nI n))]) hx hb dX7_sumOf_138 hl (k := 4) rfl rfl (by decide) rfl (fun ls hl => ?_)
                  refine lv_goto (tgt := 24) hx hb dX7_sumOf_141 (by decide) ?_
                  have hd : soA (Z 9) (Z 10) k = -(((Z 9) ((6 * (ix (Z 10 k))) + k)) - ((Z 9) (((6 * (ix (Z 10 (k - 1)))) + k) - 1))) := if_neg c_6
                  rw [nI_1] at hl
                  exact ih24 (k := k + 1) (x := (x + (-(((Z 9) ((6 * (ix (Z 10 k))) + k)) - ((Z 9) (((6 * (ix (Z 10 (k - 1)))) + k) - 1)))))) (V2 := (upd V2 (ix (Z 10 k)) ((V2 (ix (Z 10 k))) + 1))) (ls := ls) (H := H) (locs := locs) ⟨by omega, by rw [← h24_1, soL]; simp only [hd, if_pos c_4, if_neg c_5, if_neg c_6, if_pos c_8], lv_sub hl [3, 4, 1, 0] rfl, hP, hD, hS⟩
                · refine lv_iconst (v := (-1)) hx hb dX7_sumOf_131 (by decide) ?_
                  have hd : soA (Z 9) (Z 10) k = -(((Z 9) ((6 * (ix (Z 10 k))) + k)) - ((Z 9) (((6 * (ix (Z 10 (k - 1)))) + k) - 1))) := if_neg c_6
                  have hSO : (f7_sumOf (Z 9) (Z 10) (Z 12 3) (Z 12 4) n (Z 11)) = ((-1), upd V2 (ix (Z 10 k)) ((V2 (ix (Z 10 k))) + 1)) := by rw [← h24_1, soL]; simp only [hd, if_pos c_4, if_neg c_5, if_neg c_6, if_neg c_8]
                  have hb_0 : (f7_sumOf (Z 9) (Z 10) (Z 12 3) (Z 12 4) n (Z 11)).2 = upd V2 (ix (Z 10 k)) ((V2 (ix (Z 10 k))) + 1) := by rw [hSO]
                  have hP9 : va_P D vwCl ((wZ a C (uM Z 11 ((f7_sumOf (Z 9) (Z 10) (Z 12 3) (Z 12 4) n (Z 11)).2)) Y)) H := by rw [hb_0]; exact hP
                  have hD9 : va_D A ((wZ a C (uM Z 11 ((f7_sumOf (Z 9) (Z 10) (Z 12 3) (Z 12 4) n (Z 11)).2)) Y)) := by rw [hb_0]; exact hD
                  exact W.iret (v := (-1)) hx hb hr (fun t ht _ => ⟨⟨_, (), rfl, (by rw [hSO]), ⟨by rw [ht]; exact hP9, by rw [hAe]; exact hD9⟩⟩, hS.F ht⟩) hS.2.2 dX7_sumOf_132
          · refine lv_iconst (v := (-1)) hx hb dX7_sumOf_62 (by decide) ?_
            have hSO : (f7_sumOf (Z 9) (Z 10) (Z 12 3) (Z 12 4) n (Z 11)) = ((-1), upd V2 (ix (Z 10 k)) ((V2 (ix (Z 10 k))) + 1)) := by rw [← h24_1, soL]; simp only [if_neg c_4]
            have hb_0 : (f7_sumOf (Z 9) (Z 10) (Z 12 3) (Z 12 4) n (Z 11)).2 = upd V2 (ix (Z 10 k)) ((V2 (ix (Z 10 k))) + 1) := by rw [hSO]
            have hP9 : va_P D vwCl ((wZ a C (uM Z 11 ((f7_sumOf (Z 9) (Z 10) (Z 12 3) (Z 12 4) n (Z 11)).2)) Y)) H := by rw [hb_0]; exact hP
            have hD9 : va_D A ((wZ a C (uM Z 11 ((f7_sumOf (Z 9) (Z 10) (Z 12 3) (Z 12 4) n (Z 11)).2)) Y)) := by rw [hb_0]; exact hD
            exact W.iret (v := (-1)) hx hb hr (fun t ht _ => ⟨⟨_, (), rfl, (by rw [hSO]), ⟨by rw [ht]; exact hP9, by rw [hAe]; exact hD9⟩⟩, hS.F ht⟩) hS.2.2 dX7_sumOf_63
    · exact absurd (q_le (nI_lit 4) rfl (by omega) (by omega)) c_1
  | succ n4 ih4 =>
    obtain ⟨h4_0, h4_1, hl, hP, hD, hS⟩ := hinv
    refine lv_iload_n hx hb dX7_sumOf_4 rfl (lv_at hl 3 rfl) ?_
    refine lv_iconst (v := 4) hx hb dX7_sumOf_5 (by decide) ?_
    refine lv_icmp_ge (tgt := 22) hx hb dX7_sumOf_6 (by decide) (fun c_9 => ?_) (fun c_9 => ?_)
    · exact absurd c_9 (q_nle (nI_lit 4) rfl (by omega) (by omega))
    · refine lv_aload_n hx hb dX7_sumOf_9 rfl (lv_at hl 0 rfl) ?_
      refine va_get (D := D) (ci := 7) (C := RX7) (T := TX7) (N := 23) hx hb hW inX7 hown hK hP 0 rfl rfl 22 (by decide) (hW _ (wa tw572 rfl)) (fun _ h9 => h9) rfl dX7_sumOf_10 ?_
      refine lv_iload_n hx hb dX7_sumOf_13 rfl (lv_at hl 3 rfl) ?_
      refine lv_iconst (v := 0) hx hb dX7_sumOf_14 (by decide) ?_
      refine xiast hx hb hK hP hD hS 17 rfl k rfl (by omega) (by decide) dX7_sumOf_15 (fun H locs hP hD hS => ?_)
      have hP : va_P D vwCl [((a 0), .inr (7, [.int (Z 12 0), .ref (a 1), .ref (a 2), .ref (a 3), .ref (a 4), .int (Z 12 1), .ref (a 5), .ref (a 6), .ref (a 7), .ref (a 8), .ref (a 9), .int (Z 12 2), .ref (a 10), .int (Z 12 3), .int (Z 12 4), .ref (a 11), .ref (a 12), .long (Y 5 0), .ref (a 13), .ref (a 14), .ref (a 15), .ref (a 16), .ref (a 17)])), ((a 1), eI C 48 (Z 0)), ((a 2), eI C 24 (Z 1)), ((a 3), eZ C 12 (Z 2)), ((a 4), eZ C 12 (Z 3)), ((a 5), eI C 60 (Z 4)), ((a 6), eI C 60 (Z 5)), ((a 7), eI C 60 (Z 6)), ((a 8), eZ C 60 (Z 7)), ((a 9), eZ C 244 (Z 8)), ((a 10), eI C 24 (Z 9)), ((a 11), eJ C 9 (Y 0)), ((a 12), eJ C 9 (Y 1)), ((a 13), eJ C 3 (Y 2)), ((a 14), eJ C 3 (Y 3)), ((a 15), eJ C 12 (Y 4)), ((a 16), eI C 6 (Z 10)), ((a 17), eI C 4 (upd V1 k 0))] H := hP
      have hD : va_D A [((a 0), .inr (7, [.int (Z 12 0), .ref (a 1), .ref (a 2), .ref (a 3), .ref (a 4), .int (Z 12 1), .ref (a 5), .ref (a 6), .ref (a 7), .ref (a 8), .ref (a 9), .int (Z 12 2), .ref (a 10), .int (Z 12 3), .int (Z 12 4), .ref (a 11), .ref (a 12), .long (Y 5 0), .ref (a 13), .ref (a 14), .ref (a 15), .ref (a 16), .ref (a 17)])), ((a 1), eI C 48 (Z 0)), ((a 2), eI C 24 (Z 1)), ((a 3), eZ C 12 (Z 2)), ((a 4), eZ C 12 (Z 3)), ((a 5), eI C 60 (Z 4)), ((a 6), eI C 60 (Z 5)), ((a 7), eI C 60 (Z 6)), ((a 8), eZ C 60 (Z 7)), ((a 9), eZ C 244 (Z 8)), ((a 10), eI C 24 (Z 9)), ((a 11), eJ C 9 (Y 0)), ((a 12), eJ C 9 (Y 1)), ((a 13), eJ C 3 (Y 2)), ((a 14), eJ C 3 (Y 3)), ((a 15), eJ C 12 (Y 4)), ((a 16), eI C 6 (Z 10)), ((a 17), eI C 4 (upd V1 k 0))] := hD
      refine lv_iinc (v := nI k + 1) (lv' := [(3, .int (nI k + 1)), (0, .ref (a 0)), (1, .int (nI n)), (2, .int 0)]) hx hb dX7_sumOf_16 hl (k := 3) rfl rfl (by decide) rfl (fun ls hl => ?_)
      refine lv_goto (tgt := 4) hx hb dX7_sumOf_19 (by decide) ?_
      rw [nI_1] at hl
      exact ih4 (k := k + 1) (V1 := (upd V1 k 0)) (ls := ls) (H := H) (locs := locs) ⟨by omega, h4_1, lv_sub hl [1, 2, 3, 0] rfl, hP, hD, hS⟩

def rtL (Z : Nat → Nat → Int32) (n : Nat) : Nat → Nat → Int32 → Int32 → (Nat → Int32) → (Nat → Int32) → Int32 × Int32 × (Nat → Int32) × (Nat → Int32)
  | 0, _, b, w, T, V => (b, w, T, V)
  | r + 1, q, b, w, T, V =>
    if (f7_sumOf (Z 9) (lrL n q T) (Z 12 3) (Z 12 4) n V).1 < 0 then rtL Z n r (q + 1) b w (lrL n q T) (f7_sumOf (Z 9) (lrL n q T) (Z 12 3) (Z 12 4) n V).2
    else if b < 0 then rtL Z n r (q + 1) (nI q) (f7_sumOf (Z 9) (lrL n q T) (Z 12 3) (Z 12 4) n V).1 (lrL n q T) (f7_sumOf (Z 9) (lrL n q T) (Z 12 3) (Z 12 4) n V).2
    else if w ≤ (f7_sumOf (Z 9) (lrL n q T) (Z 12 3) (Z 12 4) n V).1 then rtL Z n r (q + 1) b w (lrL n q T) (f7_sumOf (Z 9) (lrL n q T) (Z 12 3) (Z 12 4) n V).2
    else rtL Z n r (q + 1) (nI q) (f7_sumOf (Z 9) (lrL n q T) (Z 12 3) (Z 12 4) n V).1 (lrL n q T) (f7_sumOf (Z 9) (lrL n q T) (Z 12 3) (Z 12 4) n V).2
theorem lrL_ge : ∀ (r q : Nat) (T : Nat → Int32) (k : Nat), r ≤ k → lrL r q T k = T k
  | 0, _, _, _, _ => rfl
  | r + 1, q, T, k, h => by
    rw [lrL, lrL_ge r (q / 4) _ k (by omega), pk_un (by omega)]
theorem lrL_lt : ∀ (r q : Nat) (T : Nat → Int32) (k : Nat), k < r → ∃ d, d < 4 ∧ lrL r q T k = nI d
  | 0, _, _, _, h => absurd h (Nat.not_lt_zero _)
  | r + 1, q, T, k, h => by
    rw [lrL]
    rcases Nat.lt_or_ge k r with q1 | q1
    · exact lrL_lt r (q / 4) _ k q1
    · have : k = r := by omega
      subst this
      rw [lrL_ge _ _ _ _ (Nat.le_refl _), pk_us]
      exact ⟨q % 4, Nat.mod_lt _ (by decide), rfl⟩
theorem lrL_T {n q : Nat} {T : Nat → Int32} : ∀ k, k < n → lrL n q T k = nI (ix (lrL n q T k)) ∧ ix (lrL n q T k) < 4 := by
  intro k hk
  obtain ⟨d, hd, e⟩ := lrL_lt n q T k hk
  rw [e, ix_nI (by omega)]
  exact ⟨rfl, hd⟩
theorem q_shl1 : ∀ N : Nat, N < 31 → (1 : Int32) <<< (nI N &&& 31) = nI (2 ^ N) := by decide +kernel
theorem q_shl {x : Int32} {N : Nat} (hx : x = nI N) (h : N < 31) : (1 : Int32) <<< (x &&& 31) = nI (2 ^ N) := by rw [hx]; exact q_shl1 N h

theorem q_16 {x : Int32} (h : ¬ f7_in x.toInt64 1 6 = 0) : ∃ k : Nat, 1 ≤ k ∧ k ≤ 6 ∧ x = nI k := by
  rw [q_in, Int32.toInt_toInt64] at h
  have h1 : (1 : Int64).toInt = 1 := rfl
  have h6 : (6 : Int64).toInt = 6 := rfl
  rw [h1, h6] at h
  obtain ⟨k, hk, e⟩ := q_nat (x := x) (n := 7) (by omega) (by omega) (by decide)
  subst e
  rw [nI_toInt (by omega)] at h
  exact ⟨k, by omega, by omega, rfl⟩
theorem q_lay {x : Int32} {n : Nat} (h1 : 1 ≤ n) (h6 : n ≤ 6) (h : ¬ f7_in x.toInt64 (-1) (nI n - 1).toInt64 = 0) : x = -1 ∨ ∃ k : Nat, k < n ∧ x = nI k := by
  rw [q_in, Int32.toInt_toInt64, Int32.toInt_toInt64, q_pred (by omega)] at h
  have hm : (-1 : Int64).toInt = -1 := rfl
  rw [hm] at h
  rcases Int.lt_or_le x.toInt 0 with q | q
  · exact Or.inl (Int32.toInt_inj.mp (by rw [show x.toInt = -1 by omega]; rfl))
  · exact Or.inr (q_nat q (by omega) (by omega))

def f7_route (Z : Nat → Nat → Int32) (nn layer : Int32) : Int32 := (if (f7_in nn.toInt64 1 6) = 0 then ((-100002)) else (if (f7_in layer.toInt64 (-1) ((nn - 1).toInt64)) = 0 then ((-100002)) else (if 0 ≤ ((rtL Z (ix nn) (2 ^ (2 * (ix nn))) 0 (-1) 0 (Z 10) (Z 11)).1) then (if 0 ≤ layer then ((lrL (ix nn) (ix (rtL Z (ix nn) (2 ^ (2 * (ix nn))) 0 (-1) 0 (Z 10) (Z 11)).1) ((rtL Z (ix nn) (2 ^ (2 * (ix nn))) 0 (-1) 0 (Z 10) (Z 11)).2.2.1)) (ix layer)) else ((rtL Z (ix nn) (2 ^ (2 * (ix nn))) 0 (-1) 0 (Z 10) (Z 11)).2.1)) else ((-100003)))))
def f7_route_Z (Z : Nat → Nat → Int32) (nn layer : Int32) : Nat → Nat → Int32 := (if (f7_in nn.toInt64 1 6) = 0 then (Z) else (if (f7_in layer.toInt64 (-1) ((nn - 1).toInt64)) = 0 then (Z) else (if 0 ≤ ((rtL Z (ix nn) (2 ^ (2 * (ix nn))) 0 (-1) 0 (Z 10) (Z 11)).1) then (uM (uM Z 10 (lrL (ix nn) (ix (rtL Z (ix nn) (2 ^ (2 * (ix nn))) 0 (-1) 0 (Z 10) (Z 11)).1) ((rtL Z (ix nn) (2 ^ (2 * (ix nn))) 0 (-1) 0 (Z 10) (Z 11)).2.2.1))) 11 ((rtL Z (ix nn) (2 ^ (2 * (ix nn))) 0 (-1) 0 (Z 10) (Z 11)).2.2.2)) else (uM (uM Z 10 ((rtL Z (ix nn) (2 ^ (2 * (ix nn))) 0 (-1) 0 (Z 10) (Z 11)).2.2.1)) 11 ((rtL Z (ix nn) (2 ^ (2 * (ix nn))) 0 (-1) 0 (Z 10) (Z 11)).2.2.2)))))
set_option maxHeartbeats 4000000 in
set_option maxRecDepth 100000 in
theorem kX7_route (l : Launch) (D : va_G) (C : Nat → ClassId) (a : Nat → Nat) (Z : Nat → Nat → Int32) (Y : Nat → Nat → Int64) (nn layer : Int32) (sz : Nat)  : Wi l D C yX7_route cX7_route 7 .int 1 [.ref (a 0), .int nn, .int layer] (wZ a C Z Y) ((wZ a C (f7_route_Z Z nn layer) Y)) (f7_route Z nn layer) sz := by
  refine Met.ofW (cc := cX7_route) (maxL := 7) (ret := (some .int)) (by decide) rfl ?_
  intro p e s m args below meth c s₁ B hml hv
  obtain ⟨rfl, hsz, hP, hK, hNw, hD0⟩ := hv
  have hx := B.exec
  have hb := B.bytes
  have hr := B.returns
  have hts := atoms_spec (ws := wm yX7_route cX7_route 7 (some .int)) B.pre
  have hown : s.vm.findClass RX7 = some m.cls := findClass_of_methodNamed B.named
  have hlocks := B.notSynchronized
  have hW : ∀ w ∈ WA, w.before _ s = true := fun w h => hts w (List.mem_cons_of_mem _ h)
  subst hsz
  have hD := hD0.self (sz := s.heap.size)
  generalize hAe : va_A (wZ a C Z Y) s.heap.size = A at hD ⊢
  have hA : ∀ q : Nat, s.heap.size ≤ q → A q := fun q h => by rw [← hAe]; exact Or.inr h
  have hS : va_S A s.heap s.heap [] := va_S.rf
  have hP : va_P D vwCl [((a 0), .inr (7, [.int (Z 12 0), .ref (a 1), .ref (a 2), .ref (a 3), .ref (a 4), .int (Z 12 1), .ref (a 5), .ref (a 6), .ref (a 7), .ref (a 8), .ref (a 9), .int (Z 12 2), .ref (a 10), .int (Z 12 3), .int (Z 12 4), .ref (a 11), .ref (a 12), .long (Y 5 0), .ref (a 13), .ref (a 14), .ref (a 15), .ref (a 16), .ref (a 17)])), ((a 1), eI C 48 (Z 0)), ((a 2), eI C 24 (Z 1)), ((a 3), eZ C 12 (Z 2)), ((a 4), eZ C 12 (Z 3)), ((a 5), eI C 60 (Z 4)), ((a 6), eI C 60 (Z 5)), ((a 7), eI C 60 (Z 6)), ((a 8), eZ C 60 (Z 7)), ((a 9), eZ C 244 (Z 8)), ((a 10), eI C 24 (Z 9)), ((a 11), eJ C 9 (Y 0)), ((a 12), eJ C 9 (Y 1)), ((a 13), eJ C 3 (Y 2)), ((a 14), eJ C 3 (Y 3)), ((a 15), eJ C 12 (Y 4)), ((a 16), eI C 6 (Z 10)), ((a 17), eI C 4 (Z 11))] s.heap := hP
  have hD : va_D A [((a 0), .inr (7, [.int (Z 12 0), .ref (a 1), .ref (a 2), .ref (a 3), .ref (a 4), .int (Z 12 1), .ref (a 5), .ref (a 6), .ref (a 7), .ref (a 8), .ref (a 9), .int (Z 12 2), .ref (a 10), .int (Z 12 3), .int (Z 12 4), .ref (a 11), .ref (a 12), .long (Y 5 0), .ref (a 13), .ref (a 14), .ref (a 15), .ref (a 16), .ref (a 17)])), ((a 1), eI C 48 (Z 0)), ((a 2), eI C 24 (Z 1)), ((a 3), eZ C 12 (Z 2)), ((a 4), eZ C 12 (Z 3)), ((a 5), eI C 60 (Z 4)), ((a 6), eI C 60 (Z 5)), ((a 7), eI C 60 (Z 6)), ((a 8), eZ C 60 (Z 7)), ((a 9), eZ C 244 (Z 8)), ((a 10), eI C 24 (Z 9)), ((a 11), eJ C 9 (Y 0)), ((a 12), eJ C 9 (Y 1)), ((a 13), eJ C 3 (Y 2)), ((a 14), eJ C 3 (Y 3)), ((a 15), eJ C 12 (Y 4)), ((a 16), eI C 6 (Z 10)), ((a 17), eI C 4 (Z 11))] := hD
  have hl := lv_entry ([.ref (a 0), .int nn, .int layer]) (n := 7) (Nat.le_of_ble_eq_true rfl)
  rw [lg_entry_eq]
  generalize (lg_sl ([.ref (a 0), .int nn, .int layer]) ++ List.replicate (7 - (lg_sl ([.ref (a 0), .int nn, .int layer])).length) Slot.unset).toArray = ls at hl ⊢
  have hl : lv_has ls 7 [(0, .ref (a 0)), (1, .int nn), (2, .int layer)] := hl
  refine lv_iload_n hx hb dX7_route_0 rfl (lv_at hl 1 rfl) ?_
  refine lv_i2l (v := nn.toInt64) hx hb dX7_route_1 rfl ?_
  refine lv_lconst (v := 1) hx hb dX7_route_2 (by decide) ?_
  refine lv_ldc2 hx hb hown (hW _ (wa tw738 rfl)) dX7_route_3 ?_
  refine xri (r := f7_in nn.toInt64 1 6) (rS (As := [.long nn.toInt64, .long 1, .long 6]) (n := 3) (rest := []) ⟨hx, hb, hml, hown, hW⟩ (kX7_in l nn.toInt64 1 6) (wa tw628 rfl) (wa tw626 rfl) (wa tw627 rfl) (wa tw8 rfl) (by decide +kernel) ⟨Nat.le_of_ble_eq_true rfl, Nat.le_of_ble_eq_true rfl⟩ pS0 hl.1 rfl (Nat.le_of_ble_eq_true rfl) dX7_route_6 ⟨Nat.le_of_ble_eq_true rfl, Nat.le_of_ble_eq_true rfl⟩ rfl rfl rfl) ?_
  refine lv_if_eq (tgt := 27) hx hb dX7_route_9 (by decide) (fun c_1 => ?_) (fun c_1 => ?_)
  · refine lv_ldc hx hb hown (hW _ (wa tw631 rfl)) dX7_route_27 ?_
    have hb_0 : (f7_route_Z Z nn layer) = Z := (by simp only [f7_route, f7_route_Z, if_pos c_1])
    have hP9 : va_P D vwCl ((wZ a C (f7_route_Z Z nn layer) Y)) s.heap := by rw [hb_0]; exact hP
    have hD9 : va_D A ((wZ a C (f7_route_Z Z nn layer) Y)) := by rw [hb_0]; exact hD
    exact W.iret (v := (-100002)) hx hb hr (fun t ht _ => ⟨⟨_, (), rfl, (by simp only [f7_route, f7_route_Z, if_pos c_1]), ⟨by rw [ht]; exact hP9, by rw [hAe]; exact hD9⟩⟩, hS.F ht⟩) hS.2.2 dX7_route_29
  · obtain ⟨n, hn1, hn6, rfl⟩ : ∃ k : Nat, 1 ≤ k ∧ k ≤ 6 ∧ nn = nI k := q_16 c_1
    have hix_n : ix (nI n) = n := ix_nI (by omega)
    refine lv_iload_n hx hb dX7_route_12 rfl (lv_at hl 2 rfl) ?_
    refine lv_i2l (v := layer.toInt64) hx hb dX7_route_13 rfl ?_
    refine lv_ldc2 hx hb hown (hW _ (wa tw733 rfl)) dX7_route_14 ?_
    refine lv_iload_n hx hb dX7_route_17 rfl (lv_at hl 1 rfl) ?_
    refine lv_iconst (v := 1) hx hb dX7_route_18 (by decide) ?_
    refine lv_isub hx hb dX7_route_19 ?_
    refine lv_i2l (v := ((nI n) - 1).toInt64) hx hb dX7_route_20 rfl ?_
    refine xri (r := f7_in layer.toInt64 (-1) (((nI n) - 1).toInt64)) (rS (As := [.long layer.toInt64, .long (-1), .long (((nI n) - 1).toInt64)]) (n := 3) (rest := []) ⟨hx, hb, hml, hown, hW⟩ (kX7_in l layer.toInt64 (-1) (((nI n) - 1).toInt64)) (wa tw628 rfl) (wa tw626 rfl) (wa tw627 rfl) (wa tw8 rfl) (by decide +kernel) ⟨Nat.le_of_ble_eq_true rfl, Nat.le_of_ble_eq_true rfl⟩ pS0 hl.1 rfl (Nat.le_of_ble_eq_true rfl) dX7_route_21 ⟨Nat.le_of_ble_eq_true rfl, Nat.le_of_ble_eq_true rfl⟩ rfl rfl rfl) ?_
    refine lv_if_ne (tgt := 30) hx hb dX7_route_24 (by decide) (fun c_2 => ?_) (fun c_2 => ?_)
    · have hla := q_lay hn1 hn6 c_2
      have hp4 : 2 ^ (2 * n) ≤ 4096 := (Nat.pow_le_pow_right (by decide) (show 2 * n ≤ 12 by omega) : 2 ^ (2 * n) ≤ 2 ^ 12)
      refine lv_iconst (v := (-1)) hx hb dX7_route_30 (by decide) ?_
      refine lv_istore_n (lv' := [(3, .int (-1)), (0, .ref (a 0)), (1, .int (nI n)), (2, .int layer)]) hx hb dX7_route_31 rfl hl (by decide) rfl (fun ls hl => ?_)
      refine lv_iconst (v := 0) hx hb dX7_route_32 (by decide) ?_
      refine lv_istore (lv' := [(4, .int 0), (3, .int (-1)), (0, .ref (a 0)), (1, .int (nI n)), (2, .int layer)]) hx hb dX7_route_33 hl (by decide) rfl (fun ls hl => ?_)
      refine lv_iconst (v := 0) hx hb dX7_route_35 (by decide) ?_
      refine lv_istore (lv' := [(5, .int 0), (4, .int 0), (3, .int (-1)), (0, .ref (a 0)), (1, .int (nI n)), (2, .int layer)]) hx hb dX7_route_36 hl (by decide) rfl (fun ls hl => ?_)
      refine xgen hP hS (fun H locs hP hS => ?_)
      obtain ⟨n38, q, b, x, T1, V1, hinv⟩ : ∃ (n38 : Nat) (q : Nat) (b : Int32) (x : Int32) (T1 : Nat → Int32) (V1 : Nat → Int32), (q + n38 = 2 ^ (2 * n)) ∧ (rtL Z n n38 q b x T1 V1 = (rtL Z n (2 ^ (2 * n)) 0 (-1) 0 (Z 10) (Z 11))) ∧ (b = -1 ∨ ∃ z : Nat, z < 2 ^ (2 * n) ∧ b = nI z) ∧ lv_has ls 7 [(0, .ref (a 0)), (1, .int (nI n)), (2, .int layer), (3, .int b), (4, .int x), (5, .int (nI q))] ∧ va_P D vwCl [((a 0), .inr (7, [.int (Z 12 0), .ref (a 1), .ref (a 2), .ref (a 3), .ref (a 4), .int (Z 12 1), .ref (a 5), .ref (a 6), .ref (a 7), .ref (a 8), .ref (a 9), .int (Z 12 2), .ref (a 10), .int (Z 12 3), .int (Z 12 4), .ref (a 11), .ref (a 12), .long (Y 5 0), .ref (a 13), .ref (a 14), .ref (a 15), .ref (a 16), .ref (a 17)])), ((a 1), eI C 48 (Z 0)), ((a 2), eI C 24 (Z 1)), ((a 3), eZ C 12 (Z 2)), ((a 4), eZ C 12 (Z 3)), ((a 5), eI C 60 (Z 4)), ((a 6), eI C 60 (Z 5)), ((a 7), eI C 60 (Z 6)), ((a 8), eZ C 60 (Z 7)), ((a 9), eZ C 244 (Z 8)), ((a 10), eI C 24 (Z 9)), ((a 11), eJ C 9 (Y 0)), ((a 12), eJ C 9 (Y 1)), ((a 13), eJ C 3 (Y 2)), ((a 14), eJ C 3 (Y 3)), ((a 15), eJ C 12 (Y 4)), ((a 16), eI C 6 T1), ((a 17), eI C 4 V1)] H ∧ va_D A [((a 0), .inr (7, [.int (Z 12 0), .ref (a 1), .ref (a 2), .ref (a 3), .ref (a 4), .int (Z 12 1), .ref (a 5), .ref (a 6), .ref (a 7), .ref (a 8), .ref (a 9), .int (Z 12 2), .ref (a 10), .int (Z 12 3), .int (Z 12 4), .ref (a 11), .ref (a 12), .long (Y 5 0), .ref (a 13), .ref (a 14), .ref (a 15), .ref (a 16), .ref (a 17)])), ((a 1), eI C 48 (Z 0)), ((a 2), eI C 24 (Z 1)), ((a 3), eZ C 12 (Z 2)), ((a 4), eZ C 12 (Z 3)), ((a 5), eI C 60 (Z 4)), ((a 6), eI C 60 (Z 5)), ((a 7), eI C 60 (Z 6)), ((a 8), eZ C 60 (Z 7)), ((a 9), eZ C 244 (Z 8)), ((a 10), eI C 24 (Z 9)), ((a 11), eJ C 9 (Y 0)), ((a 12), eJ C 9 (Y 1)), ((a 13), eJ C 3 (Y 2)), ((a 14), eJ C 3 (Y 3)), ((a 15), eJ C 12 (Y 4)), ((a 16), eI C 6 T1), ((a 17), eI C 4 V1)] ∧ va_S A s.heap H locs := ⟨(2 ^ (2 * n)), 0, (-1), 0, (Z 10), (Z 11), by omega, rfl, Or.inl rfl, lv_sub hl [3, 4, 5, 2, 1, 0] rfl, hP, hD, hS⟩
      clear hl hP hD hS
      induction n38 generalizing q b x T1 V1 ls H locs with
      | zero =>
        obtain ⟨h38_0, h38_1, h38_2, hl, hP, hD, hS⟩ := hinv
        refine lv_iload hx hb dX7_route_38 (lv_at hl 5 rfl) ?_
        refine lv_iconst (v := 1) hx hb dX7_route_40 (by decide) ?_
        refine lv_iconst (v := 2) hx hb dX7_route_41 (by decide) ?_
        refine lv_iload_n hx hb dX7_route_42 rfl (lv_at hl 1 rfl) ?_
        refine lv_imul hx hb dX7_route_43 ?_
        refine lv_ishl hx hb dX7_route_44 ?_
        refine xtopi (y := nI (2 ^ (2 * n))) (q_shl (q_mul (nI_lit 2) rfl) (by omega)) ?_
        refine lv_icmp_ge (tgt := 91) hx hb dX7_route_45 (by decide) (fun c_3 => ?_) (fun c_3 => ?_)
        · have e_b : b = (rtL Z n (2 ^ (2 * n)) 0 (-1) 0 (Z 10) (Z 11)).1 := congrArg (fun z => z.1) h38_1
          have e_x : x = (rtL Z n (2 ^ (2 * n)) 0 (-1) 0 (Z 10) (Z 11)).2.1 := congrArg (fun z => z.2.1) h38_1
          have e_T1 : T1 = (rtL Z n (2 ^ (2 * n)) 0 (-1) 0 (Z 10) (Z 11)).2.2.1 := congrArg (fun z => z.2.2.1) h38_1
          have e_V1 : V1 = (rtL Z n (2 ^ (2 * n)) 0 (-1) 0 (Z 10) (Z 11)).2.2.2 := congrArg (fun z => z.2.2.2) h38_1
          subst e_b
          subst e_x
          subst e_T1
          subst e_V1
          refine lv_iload_n hx hb dX7_route_91 rfl (lv_at hl 3 rfl) ?_
          refine lv_if_ge (tgt := 98) hx hb dX7_route_92 (by decide) (fun c_4 => ?_) (fun c_4 => ?_)
          · obtain ⟨qb, hqb, eqb⟩ : ∃ z : Nat, z < 4096 ∧ (rtL Z n (2 ^ (2 * n)) 0 (-1) 0 (Z 10) (Z 11)).1 = nI z := by rcases h38_2 with h | ⟨z, hz, h⟩; exact absurd (by rw [h] at c_4; exact c_4) (by decide); exact ⟨z, by omega, h⟩
            have hqx : qb = ix (rtL Z n (2 ^ (2 * n)) 0 (-1) 0 (Z 10) (Z 11)).1 := by rw [eqb, ix_nI (by omega)]
            subst hqx
            refine lv_aload_n hx hb dX7_route_98 rfl (lv_at hl 0 rfl) ?_
            refine lv_iload_n hx hb dX7_route_99 rfl (lv_at hl 1 rfl) ?_
            refine lv_iload_n hx hb dX7_route_100 rfl (lv_at hl 3 rfl) ?_
            refine xtopi (y := nI (ix (rtL Z n (2 ^ (2 * n)) 0 (-1) 0 (Z 10) (Z 11)).1)) eqb ?_
            refine xwv (wr := []) (rV (As := [.int (nI n), .int (nI (ix (rtL Z n (2 ^ (2 * n)) 0 (-1) 0 (Z 10) (Z 11)).1))]) (n := 2) (rest := []) ⟨hx, hb, hml, hown, hW⟩ (kX7_layRoute l D C a (uM (uM Z 10 ((rtL Z n (2 ^ (2 * n)) 0 (-1) 0 (Z 10) (Z 11)).2.2.1)) 11 ((rtL Z n (2 ^ (2 * n)) 0 (-1) 0 (Z 10) (Z 11)).2.2.2)) Y n (ix (rtL Z n (2 ^ (2 * n)) 0 (-1) 0 (Z 10) (Z 11)).1) H.size (by omega) hqb) (wa tw796 rfl) (wa tw793 rfl) (wa tw795 rfl) (was ts49 rfl) (wa tw8 rfl) (by decide +kernel) ⟨Nat.le_of_ble_eq_true rfl, Nat.le_of_ble_eq_true rfl⟩ (pVw hP hD hK hNw 0 rfl rfl) hl.1 rfl (Nat.le_of_ble_eq_true rfl) dX7_route_101 ⟨Nat.le_of_ble_eq_true rfl, Nat.le_of_ble_eq_true rfl⟩ rfl rfl rfl) hP hD hS hA [0, 1, 2, 3, 4, 5, 6, 7, 8, 9, 10, 11, 12, 13, 14, 15, 16, 17] [] rfl rfl (by decide) (by decide) (fun H locs hP hD hS => ?_)
            have hP : va_P D vwCl [((a 0), .inr (7, [.int (Z 12 0), .ref (a 1), .ref (a 2), .ref (a 3), .ref (a 4), .int (Z 12 1), .ref (a 5), .ref (a 6), .ref (a 7), .ref (a 8), .ref (a 9), .int (Z 12 2), .ref (a 10), .int (Z 12 3), .int (Z 12 4), .ref (a 11), .ref (a 12), .long (Y 5 0), .ref (a 13), .ref (a 14), .ref (a 15), .ref (a 16), .ref (a 17)])), ((a 1), eI C 48 (Z 0)), ((a 2), eI C 24 (Z 1)), ((a 3), eZ C 12 (Z 2)), ((a 4), eZ C 12 (Z 3)), ((a 5), eI C 60 (Z 4)), ((a 6), eI C 60 (Z 5)), ((a 7), eI C 60 (Z 6)), ((a 8), eZ C 60 (Z 7)), ((a 9), eZ C 244 (Z 8)), ((a 10), eI C 24 (Z 9)), ((a 11), eJ C 9 (Y 0)), ((a 12), eJ C 9 (Y 1)), ((a 13), eJ C 3 (Y 2)), ((a 14), eJ C 3 (Y 3)), ((a 15), eJ C 12 (Y 4)), ((a 16), eI C 6 (lrL n (ix (rtL Z n (2 ^ (2 * n)) 0 (-1) 0 (Z 10) (Z 11)).1) ((rtL Z n (2 ^ (2 * n)) 0 (-1) 0 (Z 10) (Z 11)).2.2.1))), ((a 17), eI C 4 ((rtL Z n (2 ^ (2 * n)) 0 (-1) 0 (Z 10) (Z 11)).2.2.2))] H := hP
            have hD : va_D A [((a 0), .inr (7, [.int (Z 12 0), .ref (a 1), .ref (a 2), .ref (a 3), .ref (a 4), .int (Z 12 1), .ref (a 5), .ref (a 6), .ref (a 7), .ref (a 8), .ref (a 9), .int (Z 12 2), .ref (a 10), .int (Z 12 3), .int (Z 12 4), .ref (a 11), .ref (a 12), .long (Y 5 0), .ref (a 13), .ref (a 14), .ref (a 15), .ref (a 16), .ref (a 17)])), ((a 1), eI C 48 (Z 0)), ((a 2), eI C 24 (Z 1)), ((a 3), eZ C 12 (Z 2)), ((a 4), eZ C 12 (Z 3)), ((a 5), eI C 60 (Z 4)), ((a 6), eI C 60 (Z 5)), ((a 7), eI C 60 (Z 6)), ((a 8), eZ C 60 (Z 7)), ((a 9), eZ C 244 (Z 8)), ((a 10), eI C 24 (Z 9)), ((a 11), eJ C 9 (Y 0)), ((a 12), eJ C 9 (Y 1)), ((a 13), eJ C 3 (Y 2)), ((a 14), eJ C 3 (Y 3)), ((a 15), eJ C 12 (Y 4)), ((a 16), eI C 6 (lrL n (ix (rtL Z n (2 ^ (2 * n)) 0 (-1) 0 (Z 10) (Z 11)).1) ((rtL Z n (2 ^ (2 * n)) 0 (-1) 0 (Z 10) (Z 11)).2.2.1))), ((a 17), eI C 4 ((rtL Z n (2 ^ (2 * n)) 0 (-1) 0 (Z 10) (Z 11)).2.2.2))] := hD
            refine lv_iload_n hx hb dX7_route_104 rfl (lv_at hl 2 rfl) ?_
            refine lv_if_ge (tgt := 113) hx hb dX7_route_105 (by decide) (fun c_5 => ?_) (fun c_5 => ?_)
            · obtain ⟨y, hy, rfl⟩ : ∃ k : Nat, k < n ∧ layer = nI k := hla.resolve_left (fun h => by rw [h] at c_5; exact absurd c_5 (by decide))
              have hix_y : ix (nI y) = y := ix_nI (by omega)
              refine lv_aload_n hx hb dX7_route_113 rfl (lv_at hl 0 rfl) ?_
              refine va_get (D := D) (ci := 7) (C := RX7) (T := TX7) (N := 23) hx hb hW inX7 hown hK hP 0 rfl rfl 21 (by decide) (hW _ (wa tw571 rfl)) (fun _ h9 => h9) rfl dX7_route_114 ?_
              refine lv_iload_n hx hb dX7_route_117 rfl (lv_at hl 2 rfl) ?_
              refine xiald hx hb hK hP 16 rfl y rfl (by omega) (by decide) dX7_route_118 ?_
              have hb_0 : (f7_route_Z Z (nI n) (nI y)) = uM (uM Z 10 (lrL n (ix (rtL Z n (2 ^ (2 * n)) 0 (-1) 0 (Z 10) (Z 11)).1) ((rtL Z n (2 ^ (2 * n)) 0 (-1) 0 (Z 10) (Z 11)).2.2.1))) 11 ((rtL Z n (2 ^ (2 * n)) 0 (-1) 0 (Z 10) (Z 11)).2.2.2) := (by simp only [f7_route, f7_route_Z, if_neg c_1, if_neg c_2, if_pos c_4, if_pos c_5, hix_n, hix_y])
              have hP9 : va_P D vwCl ((wZ a C (f7_route_Z Z (nI n) (nI y)) Y)) H := by rw [hb_0]; exact hP
              have hD9 : va_D A ((wZ a C (f7_route_Z Z (nI n) (nI y)) Y)) := by rw [hb_0]; exact hD
              exact W.iret (v := (lrL n (ix (rtL Z n (2 ^ (2 * n)) 0 (-1) 0 (Z 10) (Z 11)).1) ((rtL Z n (2 ^ (2 * n)) 0 (-1) 0 (Z 10) (Z 11)).2.2.1)) y) hx hb hr (fun t ht _ => ⟨⟨_, (), rfl, (by simp only [f7_route, f7_route_Z, if_neg c_1, if_neg c_2, if_pos c_4, if_pos c_5, hix_n, hix_y]), ⟨by rw [ht]; exact hP9, by rw [hAe]; exact hD9⟩⟩, hS.F ht⟩) hS.2.2 dX7_route_119
            · refine lv_iload hx hb dX7_route_108 (lv_at hl 4 rfl) ?_
              refine lv_goto (tgt := 119) hx hb dX7_route_110 (by decide) ?_
              have hb_0 : (f7_route_Z Z (nI n) layer) = uM (uM Z 10 (lrL n (ix (rtL Z n (2 ^ (2 * n)) 0 (-1) 0 (Z 10) (Z 11)).1) ((rtL Z n (2 ^ (2 * n)) 0 (-1) 0 (Z 10) (Z 11)).2.2.1))) 11 ((rtL Z n (2 ^ (2 * n)) 0 (-1) 0 (Z 10) (Z 11)).2.2.2) := (by simp only [f7_route, f7_route_Z, if_neg c_1, if_neg c_2, if_pos c_4, if_neg c_5, hix_n])
              have hP9 : va_P D vwCl ((wZ a C (f7_route_Z Z (nI n) layer) Y)) H := by rw [hb_0]; exact hP
              have hD9 : va_D A ((wZ a C (f7_route_Z Z (nI n) layer) Y)) := by rw [hb_0]; exact hD
              exact W.iret (v := (rtL Z n (2 ^ (2 * n)) 0 (-1) 0 (Z 10) (Z 11)).2.1) hx hb hr (fun t ht _ => ⟨⟨_, (), rfl, (by simp only [f7_route, f7_route_Z, if_neg c_1, if_neg c_2, if_pos c_4, if_neg c_5, hix_n]), ⟨by rw [ht]; exact hP9, by rw [hAe]; exact hD9⟩⟩, hS.F ht⟩) hS.2.2 dX7_route_119
          · refine lv_ldc hx hb hown (hW _ (wa tw728 rfl)) dX7_route_95 ?_
            have hb_0 : (f7_route_Z Z (nI n) layer) = uM (uM Z 10 ((rtL Z n (2 ^ (2 * n)) 0 (-1) 0 (Z 10) (Z 11)).2.2.1)) 11 ((rtL Z n (2 ^ (2 * n)) 0 (-1) 0 (Z 10) (Z 11)).2.2.2) := (by simp only [f7_route, f7_route_Z, if_neg c_1, if_neg c_2, if_neg c_4, hix_n])
            have hP9 : va_P D vwCl ((wZ a C (f7_route_Z Z (nI n) layer) Y)) H := by rw [hb_0]; exact hP
            have hD9 : va_D A ((wZ a C (f7_route_Z Z (nI n) layer) Y)) := by rw [hb_0]; exact hD
            exact W.iret (v := (-100003)) hx hb hr (fun t ht _ => ⟨⟨_, (), rfl, (by simp only [f7_route, f7_route_Z, if_neg c_1, if_neg c_2, if_neg c_4, hix_n]), ⟨by rw [ht]; exact hP9, by rw [hAe]; exact hD9⟩⟩, hS.F ht⟩) hS.2.2 dX7_route_97
        · exact absurd (q_le rfl rfl (by omega) (by omega)) c_3
      | succ n38 ih38 =>
        obtain ⟨h38_0, h38_1, h38_2, hl, hP, hD, hS⟩ := hinv
        refine lv_iload hx hb dX7_route_38 (lv_at hl 5 rfl) ?_
        refine lv_iconst (v := 1) hx hb dX7_route_40 (by decide) ?_
        refine lv_iconst (v := 2) hx hb dX7_route_41 (by decide) ?_
        refine lv_iload_n hx hb dX7_route_42 rfl (lv_at hl 1 rfl) ?_
        refine lv_imul hx hb dX7_route_43 ?_
        refine lv_ishl hx hb dX7_route_44 ?_
        refine xtopi (y := nI (2 ^ (2 * n))) (q_shl (q_mul (nI_lit 2) rfl) (by omega)) ?_
        refine lv_icmp_ge (tgt := 91) hx hb dX7_route_45 (by decide) (fun c_6 => ?_) (fun c_6 => ?_)
        · exact absurd c_6 (q_nle rfl rfl (by omega) (by omega))
        · refine lv_aload_n hx hb dX7_route_48 rfl (lv_at hl 0 rfl) ?_
          refine lv_iload_n hx hb dX7_route_49 rfl (lv_at hl 1 rfl) ?_
          refine lv_iload hx hb dX7_route_50 (lv_at hl 5 rfl) ?_
          refine xwv (wr := []) (rV (As := [.int (nI n), .int (nI q)]) (n := 2) (rest := []) ⟨hx, hb, hml, hown, hW⟩ (kX7_layRoute l D C a (uM (uM Z 10 T1) 11 V1) Y n q H.size (by omega) (by omega)) (wa tw796 rfl) (wa tw793 rfl) (wa tw795 rfl) (was ts49 rfl) (wa tw8 rfl) (by decide +kernel) ⟨Nat.le_of_ble_eq_true rfl, Nat.le_of_ble_eq_true rfl⟩ (pVw hP hD hK hNw 0 rfl rfl) hl.1 rfl (Nat.le_of_ble_eq_true rfl) dX7_route_52 ⟨Nat.le_of_ble_eq_true rfl, Nat.le_of_ble_eq_true rfl⟩ rfl rfl rfl) hP hD hS hA [0, 1, 2, 3, 4, 5, 6, 7, 8, 9, 10, 11, 12, 13, 14, 15, 16, 17] [] rfl rfl (by decide) (by decide) (fun H locs hP hD hS => ?_)
          have hP : va_P D vwCl [((a 0), .inr (7, [.int (Z 12 0), .ref (a 1), .ref (a 2), .ref (a 3), .ref (a 4), .int (Z 12 1), .ref (a 5), .ref (a 6), .ref (a 7), .ref (a 8), .ref (a 9), .int (Z 12 2), .ref (a 10), .int (Z 12 3), .int (Z 12 4), .ref (a 11), .ref (a 12), .long (Y 5 0), .ref (a 13), .ref (a 14), .ref (a 15), .ref (a 16), .ref (a 17)])), ((a 1), eI C 48 (Z 0)), ((a 2), eI C 24 (Z 1)), ((a 3), eZ C 12 (Z 2)), ((a 4), eZ C 12 (Z 3)), ((a 5), eI C 60 (Z 4)), ((a 6), eI C 60 (Z 5)), ((a 7), eI C 60 (Z 6)), ((a 8), eZ C 60 (Z 7)), ((a 9), eZ C 244 (Z 8)), ((a 10), eI C 24 (Z 9)), ((a 11), eJ C 9 (Y 0)), ((a 12), eJ C 9 (Y 1)), ((a 13), eJ C 3 (Y 2)), ((a 14), eJ C 3 (Y 3)), ((a 15), eJ C 12 (Y 4)), ((a 16), eI C 6 (lrL n q T1)), ((a 17), eI C 4 V1)] H := hP
          have hD : va_D A [((a 0), .inr (7, [.int (Z 12 0), .ref (a 1), .ref (a 2), .ref (a 3), .ref (a 4), .int (Z 12 1), .ref (a 5), .ref (a 6), .ref (a 7), .ref (a 8), .ref (a 9), .int (Z 12 2), .ref (a 10), .int (Z 12 3), .int (Z 12 4), .ref (a 11), .ref (a 12), .long (Y 5 0), .ref (a 13), .ref (a 14), .ref (a 15), .ref (a 16), .ref (a 17)])), ((a 1), eI C 48 (Z 0)), ((a 2), eI C 24 (Z 1)), ((a 3), eZ C 12 (Z 2)), ((a 4), eZ C 12 (Z 3)), ((a 5), eI C 60 (Z 4)), ((a 6), eI C 60 (Z 5)), ((a 7), eI C 60 (Z 6)), ((a 8), eZ C 60 (Z 7)), ((a 9), eZ C 244 (Z 8)), ((a 10), eI C 24 (Z 9)), ((a 11), eJ C 9 (Y 0)), ((a 12), eJ C 9 (Y 1)), ((a 13), eJ C 3 (Y 2)), ((a 14), eJ C 3 (Y 3)), ((a 15), eJ C 12 (Y 4)), ((a 16), eI C 6 (lrL n q T1)), ((a 17), eI C 4 V1)] := hD
          refine lv_aload_n hx hb dX7_route_55 rfl (lv_at hl 0 rfl) ?_
          refine lv_iload_n hx hb dX7_route_56 rfl (lv_at hl 1 rfl) ?_
          refine xwi (wr := []) (rV (As := [.int (nI n)]) (n := 1) (rest := []) ⟨hx, hb, hml, hown, hW⟩ (kX7_sumOf l D C a (uM (uM Z 10 (lrL n q T1)) 11 V1) Y n H.size (by omega) lrL_T) (wa tw800 rfl) (wa tw797 rfl) (wa tw799 rfl) (was ts50 rfl) (wa tw8 rfl) (by decide +kernel) ⟨Nat.le_of_ble_eq_true rfl, Nat.le_of_ble_eq_true rfl⟩ (pVw hP hD hK hNw 0 rfl rfl) hl.1 rfl (Nat.le_of_ble_eq_true rfl) dX7_route_57 ⟨Nat.le_of_ble_eq_true rfl, Nat.le_of_ble_eq_true rfl⟩ rfl rfl rfl) hP hD hS hA [0, 1, 2, 3, 4, 5, 6, 7, 8, 9, 10, 11, 12, 13, 14, 15, 16, 17] [] rfl rfl (by decide) (by decide) (fun H locs hP hD hS => ?_)
          have hP : va_P D vwCl [((a 0), .inr (7, [.int (Z 12 0), .ref (a 1), .ref (a 2), .ref (a 3), .ref (a 4), .int (Z 12 1), .ref (a 5), .ref (a 6), .ref (a 7), .ref (a 8), .ref (a 9), .int (Z 12 2), .ref (a 10), .int (Z 12 3), .int (Z 12 4), .ref (a 11), .ref (a 12), .long (Y 5 0), .ref (a 13), .ref (a 14), .ref (a 15), .ref (a 16), .ref (a 17)])), ((a 1), eI C 48 (Z 0)), ((a 2), eI C 24 (Z 1)), ((a 3), eZ C 12 (Z 2)), ((a 4), eZ C 12 (Z 3)), ((a 5), eI C 60 (Z 4)), ((a 6), eI C 60 (Z 5)), ((a 7), eI C 60 (Z 6)), ((a 8), eZ C 60 (Z 7)), ((a 9), eZ C 244 (Z 8)), ((a 10), eI C 24 (Z 9)), ((a 11), eJ C 9 (Y 0)), ((a 12), eJ C 9 (Y 1)), ((a 13), eJ C 3 (Y 2)), ((a 14), eJ C 3 (Y 3)), ((a 15), eJ C 12 (Y 4)), ((a 16), eI C 6 (lrL n q T1)), ((a 17), eI C 4 ((f7_sumOf (Z 9) (lrL n q T1) (Z 12 3) (Z 12 4) n V1).2))] H := hP
          have hD : va_D A [((a 0), .inr (7, [.int (Z 12 0), .ref (a 1), .ref (a 2), .ref (a 3), .ref (a 4), .int (Z 12 1), .ref (a 5), .ref (a 6), .ref (a 7), .ref (a 8), .ref (a 9), .int (Z 12 2), .ref (a 10), .int (Z 12 3), .int (Z 12 4), .ref (a 11), .ref (a 12), .long (Y 5 0), .ref (a 13), .ref (a 14), .ref (a 15), .ref (a 16), .ref (a 17)])), ((a 1), eI C 48 (Z 0)), ((a 2), eI C 24 (Z 1)), ((a 3), eZ C 12 (Z 2)), ((a 4), eZ C 12 (Z 3)), ((a 5), eI C 60 (Z 4)), ((a 6), eI C 60 (Z 5)), ((a 7), eI C 60 (Z 6)), ((a 8), eZ C 60 (Z 7)), ((a 9), eZ C 244 (Z 8)), ((a 10), eI C 24 (Z 9)), ((a 11), eJ C 9 (Y 0)), ((a 12), eJ C 9 (Y 1)), ((a 13), eJ C 3 (Y 2)), ((a 14), eJ C 3 (Y 3)), ((a 15), eJ C 12 (Y 4)), ((a 16), eI C 6 (lrL n q T1)), ((a 17), eI C 4 ((f7_sumOf (Z 9) (lrL n q T1) (Z 12 3) (Z 12 4) n V1).2))] := hD
          refine lv_istore (lv' := [(6, .int ((f7_sumOf (Z 9) (lrL n q T1) (Z 12 3) (Z 12 4) n V1).1)), (0, .ref (a 0)), (1, .int (nI n)), (2, .int layer), (3, .int b), (4, .int x), (5, .int (nI q))]) hx hb dX7_route_60 hl (by decide) rfl (fun ls hl => ?_)
          refine lv_iload hx hb dX7_route_62 (lv_at hl 0 rfl) ?_
          refine lv_if_lt (tgt := 85) hx hb dX7_route_64 (by decide) (fun c_7 => ?_) (fun c_7 => ?_)
          · refine lv_iinc (v := nI q + 1) (lv' := [(5, .int (nI q + 1)), (6, .int ((f7_sumOf (Z 9) (lrL n q T1) (Z 12 3) (Z 12 4) n V1).1)), (0, .ref (a 0)), (1, .int (nI n)), (2, .int layer), (3, .int b), (4, .int x)]) hx hb dX7_route_85 hl (k := 6) rfl rfl (by decide) rfl (fun ls hl => ?_)
            refine lv_goto (tgt := 38) hx hb dX7_route_88 (by decide) ?_
            rw [nI_1] at hl
            exact ih38 (q := q + 1) (b := b) (x := x) (T1 := (lrL n q T1)) (V1 := ((f7_sumOf (Z 9) (lrL n q T1) (Z 12 3) (Z 12 4) n V1).2)) (ls := ls) (H := H) (locs := locs) ⟨by omega, by rw [← h38_1, rtL]; simp only [if_pos c_7], h38_2, lv_sub hl [2, 3, 4, 5, 6, 0] rfl, hP, hD, hS⟩
          · refine lv_iload_n hx hb dX7_route_67 rfl (lv_at hl 4 rfl) ?_
            refine lv_if_lt (tgt := 78) hx hb dX7_route_68 (by decide) (fun c_8 => ?_) (fun c_8 => ?_)
            · refine lv_iload hx hb dX7_route_78 (lv_at hl 6 rfl) ?_
              refine lv_istore_n (lv' := [(3, .int (nI q)), (6, .int ((f7_sumOf (Z 9) (lrL n q T1) (Z 12 3) (Z 12 4) n V1).1)), (0, .ref (a 0)), (1, .int (nI n)), (2, .int layer), (4, .int x), (5, .int (nI q))]) hx hb dX7_route_80 rfl hl (by decide) rfl (fun ls hl => ?_)
              refine lv_iload hx hb dX7_route_81 (lv_at hl 1 rfl) ?_
              refine lv_istore (lv' := [(4, .int ((f7_sumOf (Z 9) (lrL n q T1) (Z 12 3) (Z 12 4) n V1).1)), (3, .int (nI q)), (6, .int ((f7_sumOf (Z 9) (lrL n q T1) (Z 12 3) (Z 12 4) n V1).1)), (0, .ref (a 0)), (1, .int (nI n)), (2, .int layer), (5, .int (nI q))]) hx hb dX7_route_83 hl (by decide) rfl (fun ls hl => ?_)
              refine lv_iinc (v := nI q + 1) (lv' := [(5, .int (nI q + 1)), (4, .int ((f7_sumOf (Z 9) (lrL n q T1) (Z 12 3) (Z 12 4) n V1).1)), (3, .int (nI q)), (6, .int ((f7_sumOf (Z 9) (lrL n q T1) (Z 12 3) (Z 12 4) n V1).1)), (0, .ref (a 0)), (1, .int (nI n)), (2, .int layer)]) hx hb dX7_route_85 hl (k := 6) rfl rfl (by decide) rfl (fun ls hl => ?_)
              refine lv_goto (tgt := 38) hx hb dX7_route_88 (by decide) ?_
              rw [nI_1] at hl
              exact ih38 (q := q + 1) (b := (nI q)) (x := ((f7_sumOf (Z 9) (lrL n q T1) (Z 12 3) (Z 12 4) n V1).1)) (T1 := (lrL n q T1)) (V1 := ((f7_sumOf (Z 9) (lrL n q T1) (Z 12 3) (Z 12 4) n V1).2)) (ls := ls) (H := H) (locs := locs) ⟨by omega, by rw [← h38_1, rtL]; simp only [if_neg c_7, if_pos c_8], Or.inr ⟨q, by omega, rfl⟩, lv_sub hl [4, 5, 6, 2, 1, 0] rfl, hP, hD, hS⟩
            · refine lv_iload hx hb dX7_route_71 (lv_at hl 0 rfl) ?_
              refine lv_iload hx hb dX7_route_73 (lv_at hl 5 rfl) ?_
              refine lv_icmp_ge (tgt := 85) hx hb dX7_route_75 (by decide) (fun c_9 => ?_) (fun c_9 => ?_)
              · refine lv_iinc (v := nI q + 1) (lv' := [(5, .int (nI q + 1)), (6, .int ((f7_sumOf (Z 9) (lrL n q T1) (Z 12 3) (Z 12 4) n V1).1)), (0, .ref (a 0)), (1, .int (nI n)), (2, .int layer), (3, .int b), (4, .int x)]) hx hb dX7_route_85 hl (k := 6) rfl rfl (by decide) rfl (fun ls hl => ?_)
                refine lv_goto (tgt := 38) hx hb dX7_route_88 (by decide) ?_
                rw [nI_1] at hl
                exact ih38 (q := q + 1) (b := b) (x := x) (T1 := (lrL n q T1)) (V1 := ((f7_sumOf (Z 9) (lrL n q T1) (Z 12 3) (Z 12 4) n V1).2)) (ls := ls) (H := H) (locs := locs) ⟨by omega, by rw [← h38_1, rtL]; simp only [if_neg c_7, if_neg c_8, if_pos c_9], h38_2, lv_sub hl [2, 3, 4, 5, 6, 0] rfl, hP, hD, hS⟩
              · refine lv_iload hx hb dX7_route_78 (lv_at hl 6 rfl) ?_
                refine lv_istore_n (lv' := [(3, .int (nI q)), (6, .int ((f7_sumOf (Z 9) (lrL n q T1) (Z 12 3) (Z 12 4) n V1).1)), (0, .ref (a 0)), (1, .int (nI n)), (2, .int layer), (4, .int x), (5, .int (nI q))]) hx hb dX7_route_80 rfl hl (by decide) rfl (fun ls hl => ?_)
                refine lv_iload hx hb dX7_route_81 (lv_at hl 1 rfl) ?_
                refine lv_istore (lv' := [(4, .int ((f7_sumOf (Z 9) (lrL n q T1) (Z 12 3) (Z 12 4) n V1).1)), (3, .int (nI q)), (6, .int ((f7_sumOf (Z 9) (lrL n q T1) (Z 12 3) (Z 12 4) n V1).1)), (0, .ref (a 0)), (1, .int (nI n)), (2, .int layer), (5, .int (nI q))]) hx hb dX7_route_83 hl (by decide) rfl (fun ls hl => ?_)
                refine lv_iinc (v := nI q + 1) (lv' := [(5, .int (nI q + 1)), (4, .int ((f7_sumOf (Z 9) (lrL n q T1) (Z 12 3) (Z 12 4) n V1).1)), (3, .int (nI q)), (6, .int ((f7_sumOf (Z 9) (lrL n q T1) (Z 12 3) (Z 12 4) n V1).1)), (0, .ref (a 0)), (1, .int (nI n)), (2, .int layer)]) hx hb dX7_route_85 hl (k := 6) rfl rfl (by decide) rfl (fun ls hl => ?_)
                refine lv_goto (tgt := 38) hx hb dX7_route_88 (by decide) ?_
                rw [nI_1] at hl
                exact ih38 (q := q + 1) (b := (nI q)) (x := ((f7_sumOf (Z 9) (lrL n q T1) (Z 12 3) (Z 12 4) n V1).1)) (T1 := (lrL n q T1)) (V1 := ((f7_sumOf (Z 9) (lrL n q T1) (Z 12 3) (Z 12 4) n V1).2)) (ls := ls) (H := H) (locs := locs) ⟨by omega, by rw [← h38_1, rtL]; simp only [if_neg c_7, if_neg c_8, if_neg c_9], Or.inr ⟨q, by omega, rfl⟩, lv_sub hl [4, 5, 6, 2, 1, 0] rfl, hP, hD, hS⟩
    · refine lv_ldc hx hb hown (hW _ (wa tw631 rfl)) dX7_route_27 ?_
      have hb_0 : (f7_route_Z Z (nI n) layer) = Z := (by simp only [f7_route, f7_route_Z, if_neg c_1, if_pos c_2, hix_n])
      have hP9 : va_P D vwCl ((wZ a C (f7_route_Z Z (nI n) layer) Y)) s.heap := by rw [hb_0]; exact hP
      have hD9 : va_D A ((wZ a C (f7_route_Z Z (nI n) layer) Y)) := by rw [hb_0]; exact hD
      exact W.iret (v := (-100002)) hx hb hr (fun t ht _ => ⟨⟨_, (), rfl, (by simp only [f7_route, f7_route_Z, if_neg c_1, if_pos c_2, hix_n]), ⟨by rw [ht]; exact hP9, by rw [hAe]; exact hD9⟩⟩, hS.F ht⟩) hS.2.2 dX7_route_29
