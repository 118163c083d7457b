def fwA : Nat → Nat → (Nat → Int64) → Nat → Int64
  | 0, _, V => V
  | n + 1, k, V => fwA n (k + 1) (vp_updL V k (-1))
def fwV (pl rd : Nat → Int32) (fac : Nat → Int64) (det : Int64) (model set : Int32) (w nt k : Nat) : Int64 := if ((set >>> (nI k &&& 31)) &&& 1) = 1 then f7_size (f7_restOf pl rd fac det model w k nt) else -1
def fwM (pl rd : Nat → Int32) (fac : Nat → Int64) (det : Int64) (model set : Int32) (w nt : Nat) : Nat → Nat → (Nat → Int64) → Nat → Int64
  | 0, _, V => V
  | n + 1, k, V => fwM pl rd fac det model set w nt n (k + 1) (vp_updL V k (if fwV pl rd fac det model set w nt k ≤ V k then V k else fwV pl rd fac det model set w nt k))
def fwY (pl rd : Nat → Int32) (Y : Nat → Nat → Int64) (model : Int32) (w : Nat) (set : Int32) (nt N : Nat) : Nat → Nat → Int64 :=
  uM (f7_findFit pl rd Y model w set nt N) 4 (fwM pl rd (f7_findFit pl rd Y model w set nt N 3) (f7_findFit pl rd Y model w set nt N 5 0) model set w nt N 0 (f7_findFit pl rd Y model w set nt N 4))
def fwW (pl rd : Nat → Int32) (model set : Int32) (nt N : Nat) : Nat → Nat → (Nat → Nat → Int64) → Nat → Nat → Int64
  | 0, _, Y => Y
  | r + 1, w, Y => fwW pl rd model set nt N r (w + 1) (fwY pl rd Y model w set nt N)
def f7_findWorst (pl rd : Nat → Int32) (Y : Nat → Nat → Int64) (model set : Int32) (nt N : Nat) : Nat → Nat → Int64 := fwW pl rd model set nt N 2 0 (uM Y 4 (fwA N 0 (Y 4)))

set_option maxHeartbeats 4000000 in
set_option maxRecDepth 100000 in
theorem kX7_findWorst (l : Launch) (D : va_G) (C : Nat → ClassId) (a : Nat → Nat) (Z : Nat → Nat → Int32) (Y : Nat → Nat → Int64) (model set : Int32) (sz : Nat) (N : Nat) (hN : Z 12 0 = nI N) (hN12 : N ≤ 12) (nt : Nat) (hnt : f7_termsOf model = nI nt) (hnt3 : nt = 1 ∨ nt = 3) : Wv l D C yX7_findWorst cX7_findWorst 7 3 [.ref (a 0), .int model, .int set] (wZ a C Z Y) ((wZ a C Z (f7_findWorst (Z 0) (Z 1) Y model set nt N))) sz := by
  refine Met.ofW (cc := cX7_findWorst) (maxL := 7) (ret := none) (by decide) rfl ?_
  intro p e s m args below meth c s₁ B hml hv
  obtain ⟨rfl, hsz, hP, hK, hNw, hD0⟩ := hv
  have hx := B.exec
  have hb := B.bytes
  have hr := B.returns
  have hts := atoms_spec (ws := wm yX7_findWorst cX7_findWorst 7 none) B.pre
  have hown : s.vm.findClass RX7 = some m.cls := findClass_of_methodNamed B.named
  have hlocks := B.notSynchronized
  have hW : ∀ w ∈ WA, w.before _ s = true := fun w h => hts w (List.mem_cons_of_mem _ h)
  subst hsz
  have hD := hD0.self (sz := s.heap.size)
  generalize hAe : va_A (wZ a C Z Y) s.heap.size = A at hD ⊢
  have hA : ∀ q : Nat, s.heap.size ≤ q → A q := fun q h => by rw [← hAe]; exact Or.inr h
  have hS : va_S A s.heap s.heap [] := va_S.rf
  have hP : va_P D vwCl [((a 0), .inr (7, [.int (Z 12 0), .ref (a 1), .ref (a 2), .ref (a 3), .ref (a 4), .int (Z 12 1), .ref (a 5), .ref (a 6), .ref (a 7), .ref (a 8), .ref (a 9), .int (Z 12 2), .ref (a 10), .int (Z 12 3), .int (Z 12 4), .ref (a 11), .ref (a 12), .long (Y 5 0), .ref (a 13), .ref (a 14), .ref (a 15), .ref (a 16), .ref (a 17)])), ((a 1), eI C 48 (Z 0)), ((a 2), eI C 24 (Z 1)), ((a 3), eZ C 12 (Z 2)), ((a 4), eZ C 12 (Z 3)), ((a 5), eI C 60 (Z 4)), ((a 6), eI C 60 (Z 5)), ((a 7), eI C 60 (Z 6)), ((a 8), eZ C 60 (Z 7)), ((a 9), eZ C 244 (Z 8)), ((a 10), eI C 24 (Z 9)), ((a 11), eJ C 9 (Y 0)), ((a 12), eJ C 9 (Y 1)), ((a 13), eJ C 3 (Y 2)), ((a 14), eJ C 3 (Y 3)), ((a 15), eJ C 12 (Y 4)), ((a 16), eI C 6 (Z 10)), ((a 17), eI C 4 (Z 11))] s.heap := hP
  have hD : va_D A [((a 0), .inr (7, [.int (Z 12 0), .ref (a 1), .ref (a 2), .ref (a 3), .ref (a 4), .int (Z 12 1), .ref (a 5), .ref (a 6), .ref (a 7), .ref (a 8), .ref (a 9), .int (Z 12 2), .ref (a 10), .int (Z 12 3), .int (Z 12 4), .ref (a 11), .ref (a 12), .long (Y 5 0), .ref (a 13), .ref (a 14), .ref (a 15), .ref (a 16), .ref (a 17)])), ((a 1), eI C 48 (Z 0)), ((a 2), eI C 24 (Z 1)), ((a 3), eZ C 12 (Z 2)), ((a 4), eZ C 12 (Z 3)), ((a 5), eI C 60 (Z 4)), ((a 6), eI C 60 (Z 5)), ((a 7), eI C 60 (Z 6)), ((a 8), eZ C 60 (Z 7)), ((a 9), eZ C 244 (Z 8)), ((a 10), eI C 24 (Z 9)), ((a 11), eJ C 9 (Y 0)), ((a 12), eJ C 9 (Y 1)), ((a 13), eJ C 3 (Y 2)), ((a 14), eJ C 3 (Y 3)), ((a 15), eJ C 12 (Y 4)), ((a 16), eI C 6 (Z 10)), ((a 17), eI C 4 (Z 11))] := hD
  have hl := lv_entry ([.ref (a 0), .int model, .int set]) (n := 7) (Nat.le_of_ble_eq_true rfl)
  rw [lg_entry_eq]
  generalize (lg_sl ([.ref (a 0), .int model, .int set]) ++ List.replicate (7 - (lg_sl ([.ref (a 0), .int model, .int set])).length) Slot.unset).toArray = ls at hl ⊢
  have hl : lv_has ls 7 [(0, .ref (a 0)), (1, .int model), (2, .int set)] := hl
  refine lv_iconst (v := 0) hx hb dX7_findWorst_0 (by decide) ?_
  refine lv_istore_n (lv' := [(3, .int 0), (0, .ref (a 0)), (1, .int model), (2, .int set)]) hx hb dX7_findWorst_1 rfl hl (by decide) rfl (fun ls hl => ?_)
  refine xgen hP hS (fun H locs hP hS => ?_)
  obtain ⟨n2, k, V1, hinv⟩ : ∃ (n2 : Nat) (k : Nat) (V1 : Nat → Int64), (k + n2 = N) ∧ (fwA n2 k V1 = fwA N 0 (Y 4)) ∧ lv_has ls 7 [(0, .ref (a 0)), (1, .int model), (2, .int set), (3, .int (nI k))] ∧ va_P D vwCl [((a 0), .inr (7, [.int (Z 12 0), .ref (a 1), .ref (a 2), .ref (a 3), .ref (a 4), .int (Z 12 1), .ref (a 5), .ref (a 6), .ref (a 7), .ref (a 8), .ref (a 9), .int (Z 12 2), .ref (a 10), .int (Z 12 3), .int (Z 12 4), .ref (a 11), .ref (a 12), .long (Y 5 0), .ref (a 13), .ref (a 14), .ref (a 15), .ref (a 16), .ref (a 17)])), ((a 1), eI C 48 (Z 0)), ((a 2), eI C 24 (Z 1)), ((a 3), eZ C 12 (Z 2)), ((a 4), eZ C 12 (Z 3)), ((a 5), eI C 60 (Z 4)), ((a 6), eI C 60 (Z 5)), ((a 7), eI C 60 (Z 6)), ((a 8), eZ C 60 (Z 7)), ((a 9), eZ C 244 (Z 8)), ((a 10), eI C 24 (Z 9)), ((a 11), eJ C 9 (Y 0)), ((a 12), eJ C 9 (Y 1)), ((a 13), eJ C 3 (Y 2)), ((a 14), eJ C 3 (Y 3)), ((a 15), eJ C 12 V1), ((a 16), eI C 6 (Z 10)), ((a 17), eI C 4 (Z 11))] H ∧ va_D A [((a 0), .inr (7, [.int (Z 12 0), .ref (a 1), .ref (a 2), .ref (a 3), .ref (a 4), .int (Z 12 1), .ref (a 5), .ref (a 6), .ref (a 7), .ref (a 8), .ref (a 9), .int (Z 12 2), .ref (a 10), .int (Z 12 3), .int (Z 12 4), .ref (a 11), .ref (a 12), .long (Y 5 0), .ref (a 13), .ref (a 14), .ref (a 15), .ref (a 16), .ref (a 17)])), ((a 1), eI C 48 (Z 0)), ((a 2), eI C 24 (Z 1)), ((a 3), eZ C 12 (Z 2)), ((a 4), eZ C 12 (Z 3)), ((a 5), eI C 60 (Z 4)), ((a 6), eI C 60 (Z 5)), ((a 7), eI C 60 (Z 6)), ((a 8), eZ C 60 (Z 7)), ((a 9), eZ C 244 (Z 8)), ((a 10), eI C 24 (Z 9)), ((a 11), eJ C 9 (Y 0)), ((a 12), eJ C 9 (Y 1)), ((a 13), eJ C 3 (Y 2)), ((a 14), eJ C 3 (Y 3)), ((a 15), eJ C 12 V1), ((a 16), eI C 6 (Z 10)), ((a 17), eI C 4 (Z 11))] ∧ va_S A s.heap H locs := ⟨N, 0, (Y 4), by omega, rfl, lv_sub hl [1, 2, 3, 0] rfl, hP, hD, hS⟩
  clear hl hP hD hS
  induction n2 generalizing k V1 ls H locs with
  | zero =>
    obtain ⟨h2_0, h2_1, hl, hP, hD, hS⟩ := hinv
    refine lv_iload_n hx hb dX7_findWorst_2 rfl (lv_at hl 3 rfl) ?_
    refine lv_aload_n hx hb dX7_findWorst_3 rfl (lv_at hl 0 rfl) ?_
    refine va_get (D := D) (ci := 7) (C := RX7) (T := TX7) (N := 23) hx hb hW inX7 hown hK hP 0 rfl rfl 0 (by decide) (hW _ (wa tw550 rfl)) (fun _ h9 => h9) rfl dX7_findWorst_4 ?_
    refine lv_icmp_ge (tgt := 25) hx hb dX7_findWorst_7 (by decide) (fun c_1 => ?_) (fun c_1 => ?_)
    · have e_V1 : V1 = fwA N 0 (Y 4) := h2_1
      subst e_V1
      refine lv_iconst (v := 0) hx hb dX7_findWorst_25 (by decide) ?_
      refine lv_istore_n (lv' := [(3, .int 0), (0, .ref (a 0)), (1, .int model), (2, .int set)]) hx hb dX7_findWorst_26 rfl hl (by decide) rfl (fun ls hl => ?_)
      refine xgen hP hS (fun H locs hP hS => ?_)
      obtain ⟨n27, w, Yv, hinv⟩ : ∃ (n27 : Nat) (w : Nat) (Yv : Nat → Nat → Int64), (w + n27 = 2) ∧ (fwW (Z 0) (Z 1) model set nt N n27 w Yv = f7_findWorst (Z 0) (Z 1) Y model set nt N) ∧ lv_has ls 7 [(0, .ref (a 0)), (1, .int model), (2, .int set), (3, .int (nI w))] ∧ va_P D vwCl [((a 0), .inr (7, [.int (Z 12 0), .ref (a 1), .ref (a 2), .ref (a 3), .ref (a 4), .int (Z 12 1), .ref (a 5), .ref (a 6), .ref (a 7), .ref (a 8), .ref (a 9), .int (Z 12 2), .ref (a 10), .int (Z 12 3), .int (Z 12 4), .ref (a 11), .ref (a 12), .long (Yv 5 0), .ref (a 13), .ref (a 14), .ref (a 15), .ref (a 16), .ref (a 17)])), ((a 1), eI C 48 (Z 0)), ((a 2), eI C 24 (Z 1)), ((a 3), eZ C 12 (Z 2)), ((a 4), eZ C 12 (Z 3)), ((a 5), eI C 60 (Z 4)), ((a 6), eI C 60 (Z 5)), ((a 7), eI C 60 (Z 6)), ((a 8), eZ C 60 (Z 7)), ((a 9), eZ C 244 (Z 8)), ((a 10), eI C 24 (Z 9)), ((a 11), eJ C 9 (Yv 0)), ((a 12), eJ C 9 (Yv 1)), ((a 13), eJ C 3 (Yv 2)), ((a 14), eJ C 3 (Yv 3)), ((a 15), eJ C 12 (Yv 4)), ((a 16), eI C 6 (Z 10)), ((a 17), eI C 4 (Z 11))] H ∧ va_D A [((a 0), .inr (7, [.int (Z 12 0), .ref (a 1), .ref (a 2), .ref (a 3), .ref (a 4), .int (Z 12 1), .ref (a 5), .ref (a 6), .ref (a 7), .ref (a 8), .ref (a 9), .int (Z 12 2), .ref (a 10), .int (Z 12 3), .int (Z 12 4), .ref (a 11), .ref (a 12), .long (Yv 5 0), .ref (a 13), .ref (a 14), .ref (a 15), .ref (a 16), .ref (a 17)])), ((a 1), eI C 48 (Z 0)), ((a 2), eI C 24 (Z 1)), ((a 3), eZ C 12 (Z 2)), ((a 4), eZ C 12 (Z 3)), ((a 5), eI C 60 (Z 4)), ((a 6), eI C 60 (Z 5)), ((a 7), eI C 60 (Z 6)), ((a 8), eZ C 60 (Z 7)), ((a 9), eZ C 244 (Z 8)), ((a 10), eI C 24 (Z 9)), ((a 11), eJ C 9 (Yv 0)), ((a 12), eJ C 9 (Yv 1)), ((a 13), eJ C 3 (Yv 2)), ((a 14), eJ C 3 (Yv 3)), ((a 15), eJ C 12 (Yv 4)), ((a 16), eI C 6 (Z 10)), ((a 17), eI C 4 (Z 11))] ∧ va_S A s.heap H locs := ⟨2, 0, (uM Y 4 (fwA N 0 (Y 4))), rfl, rfl, lv_sub hl [1, 2, 3, 0] rfl, hP, hD, hS⟩
      clear hl hP hD hS
      induction n27 generalizing w Yv ls H locs with
      | zero =>
        obtain ⟨h27_0, h27_1, hl, hP, hD, hS⟩ := hinv
        refine lv_iload_n hx hb dX7_findWorst_27 rfl (lv_at hl 3 rfl) ?_
        refine lv_iconst (v := 2) hx hb dX7_findWorst_28 (by decide) ?_
        refine lv_icmp_ge (tgt := 124) hx hb dX7_findWorst_29 (by decide) (fun c_2 => ?_) (fun c_2 => ?_)
        · have e_Yv : Yv = f7_findWorst (Z 0) (Z 1) Y model set nt N := h27_1
          subst e_Yv
          have hP9 : va_P D vwCl ((wZ a C Z (f7_findWorst (Z 0) (Z 1) Y model set nt N))) H := hP
          have hD9 : va_D A ((wZ a C Z (f7_findWorst (Z 0) (Z 1) Y model set nt N))) := hD
          exact W.vret hx hb hr (fun t ht _ => ⟨⟨(), rfl, trivial, ⟨by rw [ht]; exact hP9, by rw [hAe]; exact hD9⟩⟩, hS.F ht⟩) hS.2.2 dX7_findWorst_124
        · exact absurd (q_le (nI_lit 2) rfl (by omega) (by omega)) c_2
      | succ n27 ih27 =>
        obtain ⟨h27_0, h27_1, hl, hP, hD, hS⟩ := hinv
        refine lv_iload_n hx hb dX7_findWorst_27 rfl (lv_at hl 3 rfl) ?_
        refine lv_iconst (v := 2) hx hb dX7_findWorst_28 (by decide) ?_
        refine lv_icmp_ge (tgt := 124) hx hb dX7_findWorst_29 (by decide) (fun c_3 => ?_) (fun c_3 => ?_)
        · exact absurd c_3 (q_nle (nI_lit 2) rfl (by omega) (by omega))
        · refine lv_aload_n hx hb dX7_findWorst_32 rfl (lv_at hl 0 rfl) ?_
          refine lv_iload_n hx hb dX7_findWorst_33 rfl (lv_at hl 1 rfl) ?_
          refine lv_iload_n hx hb dX7_findWorst_34 rfl (lv_at hl 3 rfl) ?_
          refine lv_iload_n hx hb dX7_findWorst_35 rfl (lv_at hl 2 rfl) ?_
          refine xwv (wr := []) (rV (As := [.int model, .int (nI w), .int set]) (n := 3) (rest := []) ⟨hx, hb, hml, hown, hW⟩ (kX7_findFit l D C a Z Yv model w set H.size N hN hN12 nt hnt hnt3 (by omega)) (wa tw703 rfl) (wa tw700 rfl) (wa tw702 rfl) (was ts44 rfl) (wa tw8 rfl) (by decide +kernel) ⟨Nat.le_of_ble_eq_true rfl, Nat.le_of_ble_eq_true rfl⟩ (pVw hP hD hK hNw 0 rfl rfl) hl.1 rfl (Nat.le_of_ble_eq_true rfl) dX7_findWorst_36 ⟨Nat.le_of_ble_eq_true rfl, Nat.le_of_ble_eq_true rfl⟩ rfl rfl rfl) hP hD hS hA [0, 1, 2, 3, 4, 5, 6, 7, 8, 9, 10, 11, 12, 13, 14, 15, 16, 17] [] rfl rfl (by decide) (by decide) (fun H locs hP hD hS => ?_)
          have hP : va_P D vwCl [((a 0), .inr (7, [.int (Z 12 0), .ref (a 1), .ref (a 2), .ref (a 3), .ref (a 4), .int (Z 12 1), .ref (a 5), .ref (a 6), .ref (a 7), .ref (a 8), .ref (a 9), .int (Z 12 2), .ref (a 10), .int (Z 12 3), .int (Z 12 4), .ref (a 11), .ref (a 12), .long ((f7_findFit (Z 0) (Z 1) Yv model w set nt N) 5 0), .ref (a 13), .ref (a 14), .ref (a 15), .ref (a 16), .ref (a 17)])), ((a 1), eI C 48 (Z 0)), ((a 2), eI C 24 (Z 1)), ((a 3), eZ C 12 (Z 2)), ((a 4), eZ C 12 (Z 3)), ((a 5), eI C 60 (Z 4)), ((a 6), eI C 60 (Z 5)), ((a 7), eI C 60 (Z 6)), ((a 8), eZ C 60 (Z 7)), ((a 9), eZ C 244 (Z 8)), ((a 10), eI C 24 (Z 9)), ((a 11), eJ C 9 ((f7_findFit (Z 0) (Z 1) Yv model w set nt N) 0)), ((a 12), eJ C 9 ((f7_findFit (Z 0) (Z 1) Yv model w set nt N) 1)), ((a 13), eJ C 3 ((f7_findFit (Z 0) (Z 1) Yv model w set nt N) 2)), ((a 14), eJ C 3 ((f7_findFit (Z 0) (Z 1) Yv model w set nt N) 3)), ((a 15), eJ C 12 ((f7_findFit (Z 0) (Z 1) Yv model w set nt N) 4)), ((a 16), eI C 6 (Z 10)), ((a 17), eI C 4 (Z 11))] H := hP
          have hD : va_D A [((a 0), .inr (7, [.int (Z 12 0), .ref (a 1), .ref (a 2), .ref (a 3), .ref (a 4), .int (Z 12 1), .ref (a 5), .ref (a 6), .ref (a 7), .ref (a 8), .ref (a 9), .int (Z 12 2), .ref (a 10), .int (Z 12 3), .int (Z 12 4), .ref (a 11), .ref (a 12), .long ((f7_findFit (Z 0) (Z 1) Yv model w set nt N) 5 0), .ref (a 13), .ref (a 14), .ref (a 15), .ref (a 16), .ref (a 17)])), ((a 1), eI C 48 (Z 0)), ((a 2), eI C 24 (Z 1)), ((a 3), eZ C 12 (Z 2)), ((a 4), eZ C 12 (Z 3)), ((a 5), eI C 60 (Z 4)), ((a 6), eI C 60 (Z 5)), ((a 7), eI C 60 (Z 6)), ((a 8), eZ C 60 (Z 7)), ((a 9), eZ C 244 (Z 8)), ((a 10), eI C 24 (Z 9)), ((a 11), eJ C 9 ((f7_findFit (Z 0) (Z 1) Yv model w set nt N) 0)), ((a 12), eJ C 9 ((f7_findFit (Z 0) (Z 1) Yv model w set nt N) 1)), ((a 13), eJ C 3 ((f7_findFit (Z 0) (Z 1) Yv model w set nt N) 2)), ((a 14), eJ C 3 ((f7_findFit (Z 0) (Z 1) Yv model w set nt N) 3)), ((a 15), eJ C 12 ((f7_findFit (Z 0) (Z 1) Yv model w set nt N) 4)), ((a 16), eI C 6 (Z 10)), ((a 17), eI C 4 (Z 11))] := hD
          refine lv_iconst (v := 0) hx hb dX7_findWorst_39 (by decide) ?_
          refine lv_istore (lv' := [(4, .int 0), (0, .ref (a 0)), (1, .int model), (2, .int set), (3, .int (nI w))]) hx hb dX7_findWorst_40 hl (by decide) rfl (fun ls hl => ?_)
          refine xgen hP hS (fun H locs hP hS => ?_)
          obtain ⟨n42, k, V2, hinv⟩ : ∃ (n42 : Nat) (k : Nat) (V2 : Nat → Int64), (k + n42 = N) ∧ (fwM (Z 0) (Z 1) ((f7_findFit (Z 0) (Z 1) Yv model w set nt N) 3) ((f7_findFit (Z 0) (Z 1) Yv model w set nt N) 5 0) model set w nt n42 k V2 = fwM (Z 0) (Z 1) ((f7_findFit (Z 0) (Z 1) Yv model w set nt N) 3) ((f7_findFit (Z 0) (Z 1) Yv model w set nt N) 5 0) model set w nt N 0 ((f7_findFit (Z 0) (Z 1) Yv model w set nt N) 4)) ∧ lv_has ls 7 [(0, .ref (a 0)), (1, .int model), (2, .int set), (3, .int (nI w)), (4, .int (nI k))] ∧ va_P D vwCl [((a 0), .inr (7, [.int (Z 12 0), .ref (a 1), .ref (a 2), .ref (a 3), .ref (a 4), .int (Z 12 1), .ref (a 5), .ref (a 6), .ref (a 7), .ref (a 8), .ref (a 9), .int (Z 12 2), .ref (a 10), .int (Z 12 3), .int (Z 12 4), .ref (a 11), .ref (a 12), .long ((f7_findFit (Z 0) (Z 1) Yv model w set nt N) 5 0), .ref (a 13), .ref (a 14), .ref (a 15), .ref (a 16), .ref (a 17)])), ((a 1), eI C 48 (Z 0)), ((a 2), eI C 24 (Z 1)), ((a 3), eZ C 12 (Z 2)), ((a 4), eZ C 12 (Z 3)), ((a 5), eI C 60 (Z 4)), ((a 6), eI C 60 (Z 5)), ((a 7), eI C 60 (Z 6)), ((a 8), eZ C 60 (Z 7)), ((a 9), eZ C 244 (Z 8)), ((a 10), eI C 24 (Z 9)), ((a 11), eJ C 9 ((f7_findFit (Z 0) (Z 1) Yv model w set nt N) 0)), ((a 12), eJ C 9 ((f7_findFit (Z 0) (Z 1) Yv model w set nt N) 1)), ((a 13), eJ C 3 ((f7_findFit (Z 0) (Z 1) Yv model w set nt N) 2)), ((a 14), eJ C 3 ((f7_findFit (Z 0) (Z 1) Yv model w set nt N) 3)), ((a 15), eJ C 12 V2), ((a 16), eI C 6 (Z 10)), ((a 17), eI C 4 (Z 11))] H ∧ va_D A [((a 0), .inr (7, [.int (Z 12 0), .ref (a 1), .ref (a 2), .ref (a 3), .ref (a 4), .int (Z 12 1), .ref (a 5), .ref (a 6), .ref (a 7), .ref (a 8), .ref (a 9), .int (Z 12 2), .ref (a 10), .int (Z 12 3), .int (Z 12 4), .ref (a 11), .ref (a 12), .long ((f7_findFit (Z 0) (Z 1) Yv model w set nt N) 5 0), .ref (a 13), .ref (a 14), .ref (a 15), .ref (a 16), .ref (a 17)])), ((a 1), eI C 48 (Z 0)), ((a 2), eI C 24 (Z 1)), ((a 3), eZ C 12 (Z 2)), ((a 4), eZ C 12 (Z 3)), ((a 5), eI C 60 (Z 4)), ((a 6), eI C 60 (Z 5)), ((a 7), eI C 60 (Z 6)), ((a 8), eZ C 60 (Z 7)), ((a 9), eZ C 244 (Z 8)), ((a 10), eI C 24 (Z 9)), ((a 11), eJ C 9 ((f7_findFit (Z 0) (Z 1) Yv model w set nt N) 0)), ((a 12), eJ C 9 ((f7_findFit (Z 0) (Z 1) Yv model w set nt N) 1)), ((a 13), eJ C 3 ((f7_findFit (Z 0) (Z 1) Yv model w set nt N) 2)), ((a 14), eJ C 3 ((f7_findFit (Z 0) (Z 1) Yv model w set nt N) 3)), ((a 15), eJ C 12 V2), ((a 16), eI C 6 (Z 10)), ((a 17), eI C 4 (Z 11))] ∧ va_S A s.heap H locs := ⟨N, 0, ((f7_findFit (Z 0) (Z 1) Yv model w set nt N) 4), by omega, rfl, lv_sub hl [1, 2, 3, 4, 0] rfl, hP, hD, hS⟩
          clear hl hP hD hS
          induction n42 generalizing k V2 ls H locs with
          | zero =>
            obtain ⟨h42_0, h42_1, hl, hP, hD, hS⟩ := hinv
            refine lv_iload hx hb dX7_findWorst_42 (lv_at hl 4 rfl) ?_
            refine lv_aload_n hx hb dX7_findWorst_44 rfl (lv_at hl 0 rfl) ?_
            refine va_get (D := D) (ci := 7) (C := RX7) (T := TX7) (N := 23) hx hb hW inX7 hown hK hP 0 rfl rfl 0 (by decide) (hW _ (wa tw550 rfl)) (fun _ h9 => h9) rfl dX7_findWorst_45 ?_
            refine lv_icmp_ge (tgt := 118) hx hb dX7_findWorst_48 (by decide) (fun c_4 => ?_) (fun c_4 => ?_)
            · have e_V2 : V2 = fwM (Z 0) (Z 1) ((f7_findFit (Z 0) (Z 1) Yv model w set nt N) 3) ((f7_findFit (Z 0) (Z 1) Yv model w set nt N) 5 0) model set w nt N 0 ((f7_findFit (Z 0) (Z 1) Yv model w set nt N) 4) := h42_1
              subst e_V2
              refine lv_iinc (v := nI w + 1) (lv' := [(3, .int (nI w + 1)), (0, .ref (a 0)), (1, .int model), (2, .int set), (4, .int (nI k))]) hx hb dX7_findWorst_118 hl (k := 3) rfl rfl (by decide) rfl (fun ls hl => ?_)
              refine lv_goto (tgt := 27) hx hb dX7_findWorst_121 (by decide) ?_
              rw [nI_1] at hl
              exact ih27 (w := w + 1) (Yv := (fwY (Z 0) (Z 1) Yv model w set nt N)) (ls := ls) (H := H) (locs := locs) ⟨by omega, h27_1, lv_sub hl [1, 2, 3, 0] rfl, hP, hD, hS⟩
            · exact absurd (q_le hN rfl (by omega) (by omega)) c_4
          | succ n42 ih42 =>
            obtain ⟨h42_0, h42_1, hl, hP, hD, hS⟩ := hinv
            refine lv_iload hx hb dX7_findWorst_42 (lv_at hl 4 rfl) ?_
            refine lv_aload_n hx hb dX7_findWorst_44 rfl (lv_at hl 0 rfl) ?_
            refine va_get (D := D) (ci := 7) (C := RX7) (T := TX7) (N := 23) hx hb hW inX7 hown hK hP 0 rfl rfl 0 (by decide) (hW _ (wa tw550 rfl)) (fun _ h9 => h9) rfl dX7_findWorst_45 ?_
            refine lv_icmp_ge (tgt := 118) hx hb dX7_findWorst_48 (by decide) (fun c_5 => ?_) (fun c_5 => ?_)
            · exact absurd c_5 (q_nle hN rfl (by omega) (by omega))
            · refine lv_iload_n hx hb dX7_findWorst_51 rfl (lv_at hl 2 rfl) ?_
              refine lv_iload hx hb dX7_findWorst_52 (lv_at hl 4 rfl) ?_
              refine lv_ishr hx hb dX7_findWorst_54 ?_
              refine lv_iconst (v := 1) hx hb dX7_findWorst_55 (by decide) ?_
              refine lv_iand hx hb dX7_findWorst_56 ?_
              refine lv_iconst (v := 1) hx hb dX7_findWorst_57 (by decide) ?_
              refine lv_icmp_ne (tgt := 75) hx hb dX7_findWorst_58 (by decide) (fun c_6 => ?_) (fun c_6 => ?_)
              · refine lv_ldc2 hx hb hown (hW _ (wa tw733 rfl)) dX7_findWorst_75 ?_
                refine lv_lstore (lv' := [(5, .long (-1)), (0, .ref (a 0)), (1, .int model), (2, .int set), (3, .int (nI w)), (4, .int (nI k))]) hx hb dX7_findWorst_78 hl (by decide) rfl (fun ls hl => ?_)
                refine lv_aload_n hx hb dX7_findWorst_80 rfl (lv_at hl 1 rfl) ?_
                refine va_get (D := D) (ci := 7) (C := RX7) (T := TX7) (N := 23) hx hb hW inX7 hown hK hP 0 rfl rfl 20 (by decide) (hW _ (wa tw570 rfl)) (fun _ h9 => h9) rfl dX7_findWorst_81 ?_
                refine lv_iload hx hb dX7_findWorst_84 (lv_at hl 5 rfl) ?_
                refine lv_lload hx hb dX7_findWorst_86 (lv_at hl 0 rfl) ?_
                refine lv_aload_n hx hb dX7_findWorst_88 rfl (lv_at hl 1 rfl) ?_
                refine va_get (D := D) (ci := 7) (C := RX7) (T := TX7) (N := 23) hx hb hW inX7 hown hK hP 0 rfl rfl 20 (by decide) (hW _ (wa tw570 rfl)) (fun _ h9 => h9) rfl dX7_findWorst_89 ?_
                refine lv_iload hx hb dX7_findWorst_92 (lv_at hl 5 rfl) ?_
                refine xlald hx hb hK hP 15 rfl k rfl (by omega) (by decide) dX7_findWorst_94 ?_
                refine xlcmp_le (tgt := 104) hx hb dX7_findWorst_95 dX7_findWorst_96 (by decide) (fun c_7 => ?_) (fun c_7 => ?_)
                · refine lv_aload_n hx hb dX7_findWorst_104 rfl (lv_at hl 1 rfl) ?_
                  refine va_get (D := D) (ci := 7) (C := RX7) (T := TX7) (N := 23) hx hb hW inX7 hown hK hP 0 rfl rfl 20 (by decide) (hW _ (wa tw570 rfl)) (fun _ h9 => h9) rfl dX7_findWorst_105 ?_
                  refine lv_iload hx hb dX7_findWorst_108 (lv_at hl 5 rfl) ?_
                  refine xlald hx hb hK hP 15 rfl k rfl (by omega) (by decide) dX7_findWorst_110 ?_
                  refine xlast hx hb hK hP hD hS 15 rfl k rfl (by omega) (by decide) dX7_findWorst_111 (fun H locs hP hD hS => ?_)
                  have hP : va_P D vwCl [((a 0), .inr (7, [.int (Z 12 0), .ref (a 1), .ref (a 2), .ref (a 3), .ref (a 4), .int (Z 12 1), .ref (a 5), .ref (a 6), .ref (a 7), .ref (a 8), .ref (a 9), .int (Z 12 2), .ref (a 10), .int (Z 12 3), .int (Z 12 4), .ref (a 11), .ref (a 12), .long ((f7_findFit (Z 0) (Z 1) Yv model w set nt N) 5 0), .ref (a 13), .ref (a 14), .ref (a 15), .ref (a 16), .ref (a 17)])), ((a 1), eI C 48 (Z 0)), ((a 2), eI C 24 (Z 1)), ((a 3), eZ C 12 (Z 2)), ((a 4), eZ C 12 (Z 3)), ((a 5), eI C 60 (Z 4)), ((a 6), eI C 60 (Z 5)), ((a 7), eI C 60 (Z 6)), ((a 8), eZ C 60 (Z 7)), ((a 9), eZ C 244 (Z 8)), ((a 10), eI C 24 (Z 9)), ((a 11), eJ C 9 ((f7_findFit (Z 0) (Z 1) Yv model w set nt N) 0)), ((a 12), eJ C 9 ((f7_findFit (Z 0) (Z 1) Yv model w set nt N) 1)), ((a 13), eJ C 3 ((f7_findFit (Z 0) (Z 1) Yv model w set nt N) 2)), ((a 14), eJ C 3 ((f7_findFit (Z 0) (Z 1) Yv model w set nt N) 3)), ((a 15), eJ C 12 (vp_updL V2 k (V2 k))), ((a 16), eI C 6 (Z 10)), ((a 17), eI C 4 (Z 11))] H := hP
                  have hD : va_D A [((a 0), .inr (7, [.int (Z 12 0), .ref (a 1), .ref (a 2), .ref (a 3), .ref (a 4), .int (Z 12 1), .ref (a 5), .ref (a 6), .ref (a 7), .ref (a 8), .ref (a 9), .int (Z 12 2), .ref (a 10), .int (Z 12 3), .int (Z 12 4), .ref (a 11), .ref (a 12), .long ((f7_findFit (Z 0) (Z 1) Yv model w set nt N) 5 0), .ref (a 13), .ref (a 14), .ref (a 15), .ref (a 16), .ref (a 17)])), ((a 1), eI C 48 (Z 0)), ((a 2), eI C 24 (Z 1)), ((a 3), eZ C 12 (Z 2)), ((a 4), eZ C 12 (Z 3)), ((a 5), eI C 60 (Z 4)), ((a 6), eI C 60 (Z 5)), ((a 7), eI C 60 (Z 6)), ((a 8), eZ C 60 (Z 7)), ((a 9), eZ C 244 (Z 8)), ((a 10), eI C 24 (Z 9)), ((a 11), eJ C 9 ((f7_findFit (Z 0) (Z 1) Yv model w set nt N) 0)), ((a 12), eJ C 9 ((f7_findFit (Z 0) (Z 1) Yv model w set nt N) 1)), ((a 13), eJ C 3 ((f7_findFit (Z 0) (Z 1) Yv model w set nt N) 2)), ((a 14), eJ C 3 ((f7_findFit (Z 0) (Z 1) Yv model w set nt N) 3)), ((a 15), eJ C 12 (vp_updL V2 k (V2 k))), ((a 16), eI C 6 (Z 10)), ((a 17), eI C 4 (Z 11))] := hD
                  refine lv_iinc (v := nI k + 1) (lv' := [(4, .int (nI k + 1)), (5, .long (-1)), (0, .ref (a 0)), (1, .int model), (2, .int set), (3, .int (nI w))]) hx hb dX7_findWorst_112 hl (k := 5) rfl rfl (by decide) rfl (fun ls hl => ?_)
                  refine lv_goto (tgt := 42) hx hb dX7_findWorst_115 (by decide) ?_
                  rw [nI_1] at hl
                  exact ih42 (k := k + 1) (V2 := (vp_updL V2 k (V2 k))) (ls := ls) (H := H) (locs := locs) ⟨by omega, by rw [← h42_1, fwM]; simp only [fwV, if_neg c_6, if_pos c_7], lv_sub hl [2, 3, 4, 5, 0] rfl, hP, hD, hS⟩
                · refine lv_lload hx hb dX7_findWorst_99 (lv_at hl 0 rfl) ?_
                  refine lv_goto (tgt := 111) hx hb dX7_findWorst_101 (by decide) ?_
                  refine xlast hx hb hK hP hD hS 15 rfl k rfl (by omega) (by decide) dX7_findWorst_111 (fun H locs hP hD hS => ?_)
                  have hP : va_P D vwCl [((a 0), .inr (7, [.int (Z 12 0), .ref (a 1), .ref (a 2), .ref (a 3), .ref (a 4), .int (Z 12 1), .ref (a 5), .ref (a 6), .ref (a 7), .ref (a 8), .ref (a 9), .int (Z 12 2), .ref (a 10), .int (Z 12 3), .int (Z 12 4), .ref (a 11), .ref (a 12), .long ((f7_findFit (Z 0) (Z 1) Yv model w set nt N) 5 0), .ref (a 13), .ref (a 14), .ref (a 15), .ref (a 16), .ref (a 17)])), ((a 1), eI C 48 (Z 0)), ((a 2), eI C 24 (Z 1)), ((a 3), eZ C 12 (Z 2)), ((a 4), eZ C 12 (Z 3)), ((a 5), eI C 60 (Z 4)), ((a 6), eI C 60 (Z 5)), ((a 7), eI C 60 (Z 6)), ((a 8), eZ C 60 (Z 7)), ((a 9), eZ C 244 (Z 8)), ((a 10), eI C 24 (Z 9)), ((a 11), eJ C 9 ((f7_findFit (Z 0) (Z 1) Yv model w set nt N) 0)), ((a 12), eJ C 9 ((f7_findFit (Z 0) (Z 1) Yv model w set nt N) 1)), ((a 13), eJ C 3 ((f7_findFit (Z 0) (Z 1) Yv model w set nt N) 2)), ((a 14), eJ C 3 ((f7_findFit (Z 0) (Z 1) Yv model w set nt N) 3)), ((a 15), eJ C 12 (vp_updL V2 k (-1))), ((a 16), eI C 6 (Z 10)), ((a 17), eI C 4 (Z 11))] H := hP
                  have hD : va_D A [((a 0), .inr (7, [.int (Z 12 0), .ref (a 1), .ref (a 2), .ref (a 3), .ref (a 4), .int (Z 12 1), .ref (a 5), .ref (a 6), .ref (a 7), .ref (a 8), .ref (a 9), .int (Z 12 2), .ref (a 10), .int (Z 12 3), .int (Z 12 4), .ref (a 11), .ref (a 12), .long ((f7_findFit (Z 0) (Z 1) Yv model w set nt N) 5 0), .ref (a 13), .ref (a 14), .ref (a 15), .ref (a 16), .ref (a 17)])), ((a 1), eI C 48 (Z 0)), ((a 2), eI C 24 (Z 1)), ((a 3), eZ C 12 (Z 2)), ((a 4), eZ C 12 (Z 3)), ((a 5), eI C 60 (Z 4)), ((a 6), eI C 60 (Z 5)), ((a 7), eI C 60 (Z 6)), ((a 8), eZ C 60 (Z 7)), ((a 9), eZ C 244 (Z 8)), ((a 10), eI C 24 (Z 9)), ((a 11), eJ C 9 ((f7_findFit (Z 0) (Z 1) Yv model w set nt N) 0)), ((a 12), eJ C 9 ((f7_findFit (Z 0) (Z 1) Yv model w set nt N) 1)), ((a 13), eJ C 3 ((f7_findFit (Z 0) (Z 1) Yv model w set nt N) 2)), ((a 14), eJ C 3 ((f7_findFit (Z 0) (Z 1) Yv model w set nt N) 3)), ((a 15), eJ C 12 (vp_updL V2 k (-1))), ((a 16), eI C 6 (Z 10)), ((a 17), eI C 4 (Z 11))] := hD
                  refine lv_iinc (v := nI k + 1) (lv' := [(4, .int (nI k + 1)), (5, .long (-1)), (0, .ref (a 0)), (1, .int model), (2, .int set), (3, .int (nI w))]) hx hb dX7_findWorst_112 hl (k := 5) rfl rfl (by decide) rfl (fun ls hl => ?_)
                  refine lv_goto (tgt := 42) hx hb dX7_findWorst_115 (by decide) ?_
                  rw [nI_1] at hl
                  exact ih42 (k := k + 1) (V2 := (vp_updL V2 k (-1))) (ls := ls) (H := H) (locs := locs) ⟨by omega, by rw [← h42_1, fwM]; simp only [fwV, if_neg c_6, if_neg c_7], lv_sub hl [2, 3, 4, 5, 0] rfl, hP, hD, hS⟩
              · refine lv_aload_n hx hb dX7_findWorst_61 rfl (lv_at hl 0 rfl) ?_
                refine lv_iload_n hx hb dX7_findWorst_62 rfl (lv_at hl 1 rfl) ?_
                refine lv_iload_n hx hb dX7_findWorst_63 rfl (lv_at hl 3 rfl) ?_
                refine lv_iload hx hb dX7_findWorst_64 (lv_at hl 4 rfl) ?_
                refine xrl (r := f7_restOf (Z 0) (Z 1) ((f7_findFit (Z 0) (Z 1) Yv model w set nt N) 3) ((f7_findFit (Z 0) (Z 1) Yv model w set nt N) 5 0) model w k nt) (rV (As := [.int model, .int (nI w), .int (nI k)]) (n := 3) (rest := []) ⟨hx, hb, hml, hown, hW⟩ (kX7_restOf l D C a Z (uM (f7_findFit (Z 0) (Z 1) Yv model w set nt N) 4 V2) model w k nt hnt hnt3 (by omega) (by omega)) (wa tw719 rfl) (wa tw716 rfl) (wa tw718 rfl) (was ts45 rfl) (wa tw8 rfl) (by decide +kernel) ⟨Nat.le_of_ble_eq_true rfl, Nat.le_of_ble_eq_true rfl⟩ (pVr hP hK hNw 0 rfl rfl) hl.1 rfl (Nat.le_of_ble_eq_true rfl) dX7_findWorst_66 ⟨Nat.le_of_ble_eq_true rfl, Nat.le_of_ble_eq_true rfl⟩ rfl rfl rfl) ?_
                refine xrl (r := f7_size (f7_restOf (Z 0) (Z 1) ((f7_findFit (Z 0) (Z 1) Yv model w set nt N) 3) ((f7_findFit (Z 0) (Z 1) Yv model w set nt N) 5 0) model w k nt)) (rS (As := [.long (f7_restOf (Z 0) (Z 1) ((f7_findFit (Z 0) (Z 1) Yv model w set nt N) 3) ((f7_findFit (Z 0) (Z 1) Yv model w set nt N) 5 0) model w k nt)]) (n := 1) (rest := []) ⟨hx, hb, hml, hown, hW⟩ (kX7_size l (f7_restOf (Z 0) (Z 1) ((f7_findFit (Z 0) (Z 1) Yv model w set nt N) 3) ((f7_findFit (Z 0) (Z 1) Yv model w set nt N) 5 0) model w k nt)) (wa tw710 rfl) (wa tw708 rfl) (wa tw709 rfl) (wa tw8 rfl) (by decide +kernel) ⟨Nat.le_of_ble_eq_true rfl, Nat.le_of_ble_eq_true rfl⟩ pS0 hl.1 rfl (Nat.le_of_ble_eq_true rfl) dX7_findWorst_69 ⟨Nat.le_of_ble_eq_true rfl, Nat.le_of_ble_eq_true rfl⟩ rfl rfl rfl) ?_
                refine lv_goto (tgt := 78) hx hb dX7_findWorst_72 (by decide) ?_
                refine lv_lstore (lv' := [(5, .long (f7_size (f7_restOf (Z 0) (Z 1) ((f7_findFit (Z 0) (Z 1) Yv model w set nt N) 3) ((f7_findFit (Z 0) (Z 1) Yv model w set nt N) 5 0) model w k nt))), (0, .ref (a 0)), (1, .int model), (2, .int set), (3, .int (nI w)), (4, .int (nI k))]) hx hb dX7_findWorst_78 hl (by decide) rfl (fun ls hl => ?_)
                refine lv_aload_n hx hb dX7_findWorst_80 rfl (lv_at hl 1 rfl) ?_
                refine va_get (D := D) (ci := 7) (C := RX7) (T := TX7) (N := 23) hx hb hW inX7 hown hK hP 0 rfl rfl 20 (by decide) (hW _ (wa tw570 rfl)) (fun _ h9 => h9) rfl dX7_findWorst_81 ?_
                refine lv_iload hx hb dX7_findWorst_84 (lv_at hl 5 rfl) ?_
                refine lv_lload hx hb dX7_findWorst_86 (lv_at hl 0 rfl) ?_
                refine lv_aload_n hx hb dX7_findWorst_88 rfl (lv_at hl 1 rfl) ?_
                refine va_get (D := D) (ci := 7) (C := RX7) (T := TX7) (N := 23) hx hb hW inX7 hown hK hP 0 rfl rfl 20 (by decide) (hW _ (wa tw570 rfl)) (fun _ h9 => h9) rfl dX7_findWorst_89 ?_
                refine lv_iload hx hb dX7_findWorst_92 (lv_at hl 5 rfl) ?_
                refine xlald hx hb hK hP 15 rfl k rfl (by omega) (by decide) dX7_findWorst_94 ?_
                refine xlcmp_le (tgt := 104) hx hb dX7_findWorst_95 dX7_findWorst_96 (by decide) (fun c_8 => ?_) (fun c_8 => ?_)
                · refine lv_aload_n hx hb dX7_findWorst_104 rfl (lv_at hl 1 rfl) ?_
                  refine va_get (D := D) (ci := 7) (C := RX7) (T := TX7) (N := 23) hx hb hW inX7 hown hK hP 0 rfl rfl 20 (by decide) (hW _ (wa tw570 rfl)) (fun _ h9 => h9) rfl dX7_findWorst_105 ?_
                  refine lv_iload hx hb dX7_findWorst_108 (lv_at hl 5 rfl) ?_
                  refine xlald hx hb hK hP 15 rfl k rfl (by omega) (by decide) dX7_findWorst_110 ?_
                  refine xlast hx hb hK hP hD hS 15 rfl k rfl (by omega) (by decide) dX7_findWorst_111 (fun H locs hP hD hS => ?_)
                  have hP : va_P D vwCl [((a 0), .inr (7, [.int (Z 12 0), .ref (a 1), .ref (a 2), .ref (a 3), .ref (a 4), .int (Z 12 1), .ref (a 5), .ref (a 6), .ref (a 7), .ref (a 8), .ref (a 9), .int (Z 12 2), .ref (a 10), .int (Z 12 3), .int (Z 12 4), .ref (a 11), .ref (a 12), .long ((f7_findFit (Z 0) (Z 1) Yv model w set nt N) 5 0), .ref (a 13), .ref (a 14), .ref (a 15), .ref (a 16), .ref (a 17)])), ((a 1), eI C 48 (Z 0)), ((a 2), eI C 24 (Z 1)), ((a 3), eZ C 12 (Z 2)), ((a 4), eZ C 12 (Z 3)), ((a 5), eI C 60 (Z 4)), ((a 6), eI C 60 (Z 5)), ((a 7), eI C 60 (Z 6)), ((a 8), eZ C 60 (Z 7)), ((a 9), eZ C 244 (Z 8)), ((a 10), eI C 24 (Z 9)), ((a 11), eJ C 9 ((f7_findFit (Z 0) (Z 1) Yv model w set nt N) 0)), ((a 12), eJ C 9 ((f7_findFit (Z 0) (Z 1) Yv model w set nt N) 1)), ((a 13), eJ C 3 ((f7_findFit (Z 0) (Z 1) Yv model w set nt N) 2)), ((a 14), eJ C 3 ((f7_findFit (Z 0) (Z 1) Yv model w set nt N) 3)), ((a 15), eJ C 12 (vp_updL V2 k (V2 k))), ((a 16), eI C 6 (Z 10)), ((a 17), eI C 4 (Z 11))] H := hP
                  have hD : va_D A [((a 0), .inr (7, [.int (Z 12 0), .ref (a 1), .ref (a 2), .ref (a 3), .ref (a 4), .int (Z 12 1), .ref (a 5), .ref (a 6), .ref (a 7), .ref (a 8), .ref (a 9), .int (Z 12 2), .ref (a 10), .int (Z 12 3), .int (Z 12 4), .ref (a 11), .ref (a 12), .long ((f7_findFit (Z 0) (Z 1) Yv model w set nt N) 5 0), .ref (a 13), .ref (a 14), .ref (a 15), .ref (a 16), .ref (a 17)])), ((a 1), eI C 48 (Z 0)), ((a 2), eI C 24 (Z 1)), ((a 3), eZ C 12 (Z 2)), ((a 4), eZ C 12 (Z 3)), ((a 5), eI C 60 (Z 4)), ((a 6), eI C 60 (Z 5)), ((a 7), eI C 60 (Z 6)), ((a 8), eZ C 60 (Z 7)), ((a 9), eZ C 244 (Z 8)), ((a 10), eI C 24 (Z 9)), ((a 11), eJ C 9 ((f7_findFit (Z 0) (Z 1) Yv model w set nt N) 0)), ((a 12), eJ C 9 ((f7_findFit (Z 0) (Z 1) Yv model w set nt N) 1)), ((a 13), eJ C 3 ((f7_findFit (Z 0) (Z 1) Yv model w set nt N) 2)), ((a 14), eJ C 3 ((f7_findFit (Z 0) (Z 1) Yv model w set nt N) 3)), ((a 15), eJ C 12 (vp_updL V2 k (V2 k))), ((a 16), eI C 6 (Z 10)), ((a 17), eI C 4 (Z 11))] := hD
                  refine lv_iinc (v := nI k + 1) (lv' := [(4, .int (nI k + 1)), (5, .long (f7_size (f7_restOf (Z 0) (Z 1) ((f7_findFit (Z 0) (Z 1) Yv model w set nt N) 3) ((f7_findFit (Z 0) (Z 1) Yv model w set nt N) 5 0) model w k nt))), (0, .ref (a 0)), (1, .int model), (2, .int set), (3, .int (nI w))]) hx hb dX7_findWorst_112 hl (k := 5) rfl rfl (by decide) rfl (fun ls hl => ?_)
                  refine lv_goto (tgt := 42) hx hb dX7_findWorst_115 (by decide) ?_
                  rw [nI_1] at hl
                  exact ih42 (k := k + 1) (V2 := (vp_updL V2 k (V2 k))) (ls := ls) (H := H) (locs := locs) ⟨by omega, by rw [← h42_1, fwM]; simp only [fwV, if_pos c_6, if_pos c_8], lv_sub hl [2, 3, 4, 5, 0] rfl, hP, hD, hS⟩
                · refine lv_lload hx hb dX7_findWorst_99 (lv_at hl 0 rfl) ?_
                  refine lv_goto (tgt := 111) hx hb dX7_findWorst_101 (by decide) ?_
                  refine xlast hx hb hK hP hD hS 15 rfl k rfl (by omega) (by decide) dX7_findWorst_111 (fun H locs hP hD hS => ?_)
                  have hP : va_P D vwCl [((a 0), .inr (7, [.int (Z 12 0), .ref (a 1), .ref (a 2), .ref (a 3), .ref (a 4), .int (Z 12 1), .ref (a 5), .ref (a 6), .ref (a 7), .ref (a 8), .ref (a 9), .int (Z 12 2), .ref (a 10), .int (Z 12 3), .int (Z 12 4), .ref (a 11), .ref (a 12), .long ((f7_findFit (Z 0) (Z 1) Yv model w set nt N) 5 0), .ref (a 13), .ref (a 14), .ref (a 15), .ref (a 16), .ref (a 17)])), ((a 1), eI C 48 (Z 0)), ((a 2), eI C 24 (Z 1)), ((a 3), eZ C 12 (Z 2)), ((a 4), eZ C 12 (Z 3)), ((a 5), eI C 60 (Z 4)), ((a 6), eI C 60 (Z 5)), ((a 7), eI C 60 (Z 6)), ((a 8), eZ C 60 (Z 7)), ((a 9), eZ C 244 (Z 8)), ((a 10), eI C 24 (Z 9)), ((a 11), eJ C 9 ((f7_findFit (Z 0) (Z 1) Yv model w set nt N) 0)), ((a 12), eJ C 9 ((f7_findFit (Z 0) (Z 1) Yv model w set nt N) 1)), ((a 13), eJ C 3 ((f7_findFit (Z 0) (Z 1) Yv model w set nt N) 2)), ((a 14), eJ C 3 ((f7_findFit (Z 0) (Z 1) Yv model w set nt N) 3)), ((a 15), eJ C 12 (vp_updL V2 k (f7_size (f7_restOf (Z 0) (Z 1) ((f7_findFit (Z 0) (Z 1) Yv model w set nt N) 3) ((f7_findFit (Z 0) (Z 1) Yv model w set nt N) 5 0) model w k nt)))), ((a 16), eI C 6 (Z 10)), ((a 17), eI C 4 (Z 11))] H := hP
                  have hD : va_D A [((a 0), .inr (7, [.int (Z 12 0), .ref (a 1), .ref (a 2), .ref (a 3), .ref (a 4), .int (Z 12 1), .ref (a 5), .ref (a 6), .ref (a 7), .ref (a 8), .ref (a 9), .int (Z 12 2), .ref (a 10), .int (Z 12 3), .int (Z 12 4), .ref (a 11), .ref (a 12), .long ((f7_findFit (Z 0) (Z 1) Yv model w set nt N) 5 0), .ref (a 13), .ref (a 14), .ref (a 15), .ref (a 16), .ref (a 17)])), ((a 1), eI C 48 (Z 0)), ((a 2), eI C 24 (Z 1)), ((a 3), eZ C 12 (Z 2)), ((a 4), eZ C 12 (Z 3)), ((a 5), eI C 60 (Z 4)), ((a 6), eI C 60 (Z 5)), ((a 7), eI C 60 (Z 6)), ((a 8), eZ C 60 (Z 7)), ((a 9), eZ C 244 (Z 8)), ((a 10), eI C 24 (Z 9)), ((a 11), eJ C 9 ((f7_findFit (Z 0) (Z 1) Yv model w set nt N) 0)), ((a 12), eJ C 9 ((f7_findFit (Z 0) (Z 1) Yv model w set nt N) 1)), ((a 13), eJ C 3 ((f7_findFit (Z 0) (Z 1) Yv model w set nt N) 2)), ((a 14), eJ C 3 ((f7_findFit (Z 0) (Z 1) Yv model w set nt N) 3)), ((a 15), eJ C 12 (vp_updL V2 k (f7_size (f7_restOf (Z 0) (Z 1) ((f7_findFit (Z 0) (Z 1) Yv model w set nt N) 3) ((f7_findFit (Z 0) (Z 1) Yv model w set nt N) 5 0) model w k nt)))), ((a 16), eI C 6 (Z 10)), ((a 17), eI C 4 (Z 11))] := hD
                  refine lv_iinc (v := nI k + 1) (lv' := [(4, .int (nI k + 1)), (5, .long (f7_size (f7_restOf (Z 0) (Z 1) ((f7_findFit (Z 0) (Z 1) Yv model w set nt N) 3) ((f7_findFit (Z 0) (Z 1) Yv model w set nt N) 5 0) model w k nt))), (0, .ref (a 0)), (1, .int model), (2, .int set), (3, .int (nI w))]) hx hb dX7_findWorst_112 hl (k := 5) rfl rfl (by decide) rfl (fun ls hl => ?_)
                  refine lv_goto (tgt := 42) hx hb dX7_findWorst_115 (by decide) ?_
                  rw [nI_1] at hl
                  exact ih42 (k := k + 1) (V2 := (vp_updL V2 k (f7_size (f7_restOf (Z 0) (Z 1) ((f7_findFit (Z 0) (Z 1) Yv model w set nt N) 3) ((f7_findFit (Z 0) (Z 1) Yv model w set nt N) 5 0) model w k nt)))) (ls := ls) (H := H) (locs := locs) ⟨by omega, by rw [← h42_1, fwM]; simp only [fwV, if_pos c_6, if_neg c_8], lv_sub hl [2, 3, 4, 5, 0] rfl, hP, hD, hS⟩
    · exact absurd (q_le hN rfl (by omega) (by omega)) c_1
  | succ n2 ih2 =>
    obtain ⟨h2_0, h2_1, hl, hP, hD, hS⟩ := hinv
    refine lv_iload_n hx hb dX7_findWorst_2 rfl (lv_at hl 3 rfl) ?_
    refine lv_aload_n hx hb dX7_findWorst_3 rfl (lv_at hl 0 rfl) ?_
    refine va_get (D := D) (ci := 7) (C := RX7) (T := TX7) (N := 23) hx hb hW inX7 hown hK hP 0 rfl rfl 0 (by decide) (hW _ (wa tw550 rfl)) (fun _ h9 => h9) rfl dX7_findWorst_4 ?_
    refine lv_icmp_ge (tgt := 25) hx hb dX7_findWorst_7 (by decide) (fun c_9 => ?_) (fun c_9 => ?_)
    · exact absurd c_9 (q_nle hN rfl (by omega) (by omega))
    · refine lv_aload_n hx hb dX7_findWorst_10 rfl (lv_at hl 0 rfl) ?_
      refine va_get (D := D) (ci := 7) (C := RX7) (T := TX7) (N := 23) hx hb hW inX7 hown hK hP 0 rfl rfl 20 (by decide) (hW _ (wa tw570 rfl)) (fun _ h9 => h9) rfl dX7_findWorst_11 ?_
      refine lv_iload_n hx hb dX7_findWorst_14 rfl (lv_at hl 3 rfl) ?_
      refine lv_ldc2 hx hb hown (hW _ (wa tw733 rfl)) dX7_findWorst_15 ?_
      refine xlast hx hb hK hP hD hS 15 rfl k rfl (by omega) (by decide) dX7_findWorst_18 (fun H locs hP hD hS => ?_)
      have hP : va_P D vwCl [((a 0), .inr (7, [.int (Z 12 0), .ref (a 1), .ref (a 2), .ref (a 3), .ref (a 4), .int (Z 12 1), .ref (a 5), .ref (a 6), .ref (a 7), .ref (a 8), .ref (a 9), .int (Z 12 2), .ref (a 10), .int (Z 12 3), .int (Z 12 4), .ref (a 11), .ref (a 12), .long (Y 5 0), .ref (a 13), .ref (a 14), .ref (a 15), .ref (a 16), .ref (a 17)])), ((a 1), eI C 48 (Z 0)), ((a 2), eI C 24 (Z 1)), ((a 3), eZ C 12 (Z 2)), ((a 4), eZ C 12 (Z 3)), ((a 5), eI C 60 (Z 4)), ((a 6), eI C 60 (Z 5)), ((a 7), eI C 60 (Z 6)), ((a 8), eZ C 60 (Z 7)), ((a 9), eZ C 244 (Z 8)), ((a 10), eI C 24 (Z 9)), ((a 11), eJ C 9 (Y 0)), ((a 12), eJ C 9 (Y 1)), ((a 13), eJ C 3 (Y 2)), ((a 14), eJ C 3 (Y 3)), ((a 15), eJ C 12 (vp_updL V1 k (-1))), ((a 16), eI C 6 (Z 10)), ((a 17), eI C 4 (Z 11))] H := hP
      have hD : va_D A [((a 0), .inr (7, [.int (Z 12 0), .ref (a 1), .ref (a 2), .ref (a 3), .ref (a 4), .int (Z 12 1), .ref (a 5), .ref (a 6), .ref (a 7), .ref (a 8), .ref (a 9), .int (Z 12 2), .ref (a 10), .int (Z 12 3), .int (Z 12 4), .ref (a 11), .ref (a 12), .long (Y 5 0), .ref (a 13), .ref (a 14), .ref (a 15), .ref (a 16), .ref (a 17)])), ((a 1), eI C 48 (Z 0)), ((a 2), eI C 24 (Z 1)), ((a 3), eZ C 12 (Z 2)), ((a 4), eZ C 12 (Z 3)), ((a 5), eI C 60 (Z 4)), ((a 6), eI C 60 (Z 5)), ((a 7), eI C 60 (Z 6)), ((a 8), eZ C 60 (Z 7)), ((a 9), eZ C 244 (Z 8)), ((a 10), eI C 24 (Z 9)), ((a 11), eJ C 9 (Y 0)), ((a 12), eJ C 9 (Y 1)), ((a 13), eJ C 3 (Y 2)), ((a 14), eJ C 3 (Y 3)), ((a 15), eJ C 12 (vp_updL V1 k (-1))), ((a 16), eI C 6 (Z 10)), ((a 17), eI C 4 (Z 11))] := hD
      refine lv_iinc (v := nI k + 1) (lv' := [(3, .int (nI k + 1)), (0, .ref (a 0)), (1, .int model), (2, .int set)]) hx hb dX7_findWorst_19 hl (k := 3) rfl rfl (by decide) rfl (fun ls hl => ?_)
      refine lv_goto (tgt := 2) hx hb dX7_findWorst_22 (by decide) ?_
      rw [nI_1] at hl
      exact ih2 (k := k + 1) (V1 := (vp_updL V1 k (-1))) (ls := ls) (H := H) (locs := locs) ⟨by omega, h2_1, lv_sub hl [1, 2, 3, 0] rfl, hP, hD, hS⟩

def woV (pl : Nat → Int32) (tu : Nat → Int64) (model : Int32) (j : Nat) : Nat → Nat → Int64 → Int64
  | 0, _, v => v
  | n + 1, k, v => woV pl tu model j n (k + 1) (v + (if f7_termsOf model ≤ nI (k / 3) then 0 else if f7_termsOf model ≤ nI (k % 3) then 0 else f7_term pl model j (k / 3) * tu k * f7_term pl model j (k % 3)))
def woL (pl : Nat → Int32) (tu : Nat → Int64) (model : Int32) : Nat → Nat → Int64 → Int64
  | 0, _, x => x
  | n + 1, j, x => woL pl tu model n (j + 1) (if woV pl tu model j 9 0 0 ≤ x then x else woV pl tu model j 9 0 0)
def f7_worstOf (pl : Nat → Int32) (tu : Nat → Int64) (model : Int32) (N : Nat) : Int64 := woL pl tu model N 0 0

set_option maxHeartbeats 4000000 in
set_option maxRecDepth 100000 in
theorem kX7_worstOf (l : Launch) (D : va_G) (C : Nat → ClassId) (a : Nat → Nat) (Z : Nat → Nat → Int32) (Y : Nat → Nat → Int64) (model : Int32) (N : Nat) (hN : Z 12 0 = nI N) (hN12 : N ≤ 12) : Rl l D C yX7_worstOf cX7_worstOf 8 1 [.ref (a 0), .int model] (wZ a C Z Y) (f7_worstOf (Z 0) (Y 1) model N) := by
  refine Met.ofW (cc := cX7_worstOf) (maxL := 8) (ret := (some .long)) (by decide) rfl ?_
  intro p e s m args below meth c s₁ B hml hv
  obtain ⟨rfl, hP, hK, hNw⟩ := hv
  have hx := B.exec
  have hb := B.bytes
  have hr := B.returns
  have hts := atoms_spec (ws := wm yX7_worstOf cX7_worstOf 8 (some .long)) B.pre
  have hown : s.vm.findClass RX7 = some m.cls := findClass_of_methodNamed B.named
  have hlocks := B.notSynchronized
  have hW : ∀ w ∈ WA, w.before _ s = true := fun w h => hts w (List.mem_cons_of_mem _ h)
  have hP : va_P D vwCl [((a 0), .inr (7, [.int (Z 12 0), .ref (a 1), .ref (a 2), .ref (a 3), .ref (a 4), .int (Z 12 1), .ref (a 5), .ref (a 6), .ref (a 7), .ref (a 8), .ref (a 9), .int (Z 12 2), .ref (a 10), .int (Z 12 3), .int (Z 12 4), .ref (a 11), .ref (a 12), .long (Y 5 0), .ref (a 13), .ref (a 14), .ref (a 15), .ref (a 16), .ref (a 17)])), ((a 1), eI C 48 (Z 0)), ((a 2), eI C 24 (Z 1)), ((a 3), eZ C 12 (Z 2)), ((a 4), eZ C 12 (Z 3)), ((a 5), eI C 60 (Z 4)), ((a 6), eI C 60 (Z 5)), ((a 7), eI C 60 (Z 6)), ((a 8), eZ C 60 (Z 7)), ((a 9), eZ C 244 (Z 8)), ((a 10), eI C 24 (Z 9)), ((a 11), eJ C 9 (Y 0)), ((a 12), eJ C 9 (Y 1)), ((a 13), eJ C 3 (Y 2)), ((a 14), eJ C 3 (Y 3)), ((a 15), eJ C 12 (Y 4)), ((a 16), eI C 6 (Z 10)), ((a 17), eI C 4 (Z 11))] s.heap := hP
  have hl := lv_entry ([.ref (a 0), .int model]) (n := 8) (Nat.le_of_ble_eq_true rfl)
  rw [lg_entry_eq]
  generalize (lg_sl ([.ref (a 0), .int model]) ++ List.replicate (8 - (lg_sl ([.ref (a 0), .int model])).length) Slot.unset).toArray = ls at hl ⊢
  have hl : lv_has ls 8 [(0, .ref (a 0)), (1, .int model)] := hl
  refine lv_lconst (v := 0) hx hb dX7_worstOf_0 (by decide) ?_
  refine lv_lstore_n (lv' := [(2, .long 0), (0, .ref (a 0)), (1, .int model)]) hx hb dX7_worstOf_1 rfl hl (by decide) rfl (fun ls hl => ?_)
  refine lv_iconst (v := 0) hx hb dX7_worstOf_2 (by decide) ?_
  refine lv_istore (lv' := [(4, .int 0), (2, .long 0), (0, .ref (a 0)), (1, .int model)]) hx hb dX7_worstOf_3 hl (by decide) rfl (fun ls hl => ?_)
  obtain ⟨n5, j, x, hinv⟩ : ∃ (n5 : Nat) (j : Nat) (x : Int64), (j + n5 = N) ∧ (woL (Z 0) (Y 1) model n5 j x = f7_worstOf (Z 0) (Y 1) model N) ∧ lv_has ls 8 [(0, .ref (a 0)), (1, .int model), (2, .long x), (4, .int (nI j))] := ⟨N, 0, 0, by omega, rfl, lv_sub hl [2, 3, 1, 0] rfl⟩
  clear hl
  induction n5 generalizing j x ls with
  | zero =>
    obtain ⟨h5_0, h5_1, hl⟩ := hinv
    refine lv_iload hx hb dX7_worstOf_5 (lv_at hl 3 rfl) ?_
    refine lv_aload_n hx hb dX7_worstOf_7 rfl (lv_at hl 0 rfl) ?_
    refine va_get (D := D) (ci := 7) (C := RX7) (T := TX7) (N := 23) hx hb hW inX7 hown hK hP 0 rfl rfl 0 (by decide) (hW _ (wa tw550 rfl)) (fun _ h9 => h9) rfl dX7_worstOf_8 ?_
    refine lv_icmp_ge (tgt := 115) hx hb dX7_worstOf_11 (by decide) (fun c_1 => ?_) (fun c_1 => ?_)
    · refine lv_lload_n hx hb dX7_worstOf_115 rfl (lv_at hl 2 rfl) ?_
      exact W.lret (v := x) hx hb hr (fun t ht _ => ⟨_, rfl, h5_1, ht⟩) (fun q h => by cases h) dX7_worstOf_116
    · exact absurd (q_le hN rfl (by omega) (by omega)) c_1
  | succ n5 ih5 =>
    obtain ⟨h5_0, h5_1, hl⟩ := hinv
    refine lv_iload hx hb dX7_worstOf_5 (lv_at hl 3 rfl) ?_
    refine lv_aload_n hx hb dX7_worstOf_7 rfl (lv_at hl 0 rfl) ?_
    refine va_get (D := D) (ci := 7) (C := RX7) (T := TX7) (N := 23) hx hb hW inX7 hown hK hP 0 rfl rfl 0 (by decide) (hW _ (wa tw550 rfl)) (fun _ h9 => h9) rfl dX7_worstOf_8 ?_
    refine lv_icmp_ge (tgt := 115) hx hb dX7_worstOf_11 (by decide) (fun c_2 => ?_) (fun c_2 => ?_)
    · exact absurd c_2 (q_nle hN rfl (by omega) (by omega))
    · refine lv_lconst (v := 0) hx hb dX7_worstOf_14 (by decide) ?_
      refine lv_lstore (lv' := [(5, .long 0), (0, .ref (a 0)), (1, .int model), (2, .long x), (4, .int (nI j))]) hx hb dX7_worstOf_15 hl (by decide) rfl (fun ls hl => ?_)
      refine lv_iconst (v := 0) hx hb dX7_worstOf_17 (by decide) ?_
      refine lv_istore (lv' := [(7, .int 0), (5, .long 0), (0, .ref (a 0)), (1, .int model), (2, .long x), (4, .int (nI j))]) hx hb dX7_worstOf_18 hl (by decide) rfl (fun ls hl => ?_)
      obtain ⟨n20, k, v, hinv⟩ : ∃ (n20 : Nat) (k : Nat) (v : Int64), (k + n20 = 9) ∧ (woV (Z 0) (Y 1) model j n20 k v = woV (Z 0) (Y 1) model j 9 0 0) ∧ lv_has ls 8 [(0, .ref (a 0)), (1, .int model), (2, .long x), (4, .int (nI j)), (5, .long v), (7, .int (nI k))] := ⟨9, 0, 0, rfl, rfl, lv_sub hl [2, 3, 4, 5, 1, 0] rfl⟩
      clear hl
      induction n20 generalizing k v ls with
      | zero =>
        obtain ⟨h20_0, h20_1, hl⟩ := hinv
        refine lv_iload hx hb dX7_worstOf_20 (lv_at hl 5 rfl) ?_
        refine lv_bipush (v := 9) hx hb dX7_worstOf_22 (by decide) ?_
        refine lv_icmp_ge (tgt := 95) hx hb dX7_worstOf_24 (by decide) (fun c_3 => ?_) (fun c_3 => ?_)
        · have e_v : v = woV (Z 0) (Y 1) model j 9 0 0 := h20_1
          subst e_v
          refine lv_lload hx hb dX7_worstOf_95 (lv_at hl 4 rfl) ?_
          refine lv_lload_n hx hb dX7_worstOf_97 rfl (lv_at hl 2 rfl) ?_
          refine xlcmp_le (tgt := 107) hx hb dX7_worstOf_98 dX7_worstOf_99 (by decide) (fun c_4 => ?_) (fun c_4 => ?_)
          · refine lv_lload_n hx hb dX7_worstOf_107 rfl (lv_at hl 2 rfl) ?_
            refine lv_lstore_n (lv' := [(2, .long x), (0, .ref (a 0)), (1, .int model), (4, .int (nI j)), (5, .long (woV (Z 0) (Y 1) model j 9 0 0)), (7, .int (nI k))]) hx hb dX7_worstOf_108 rfl hl (by decide) rfl (fun ls hl => ?_)
            refine lv_iinc (v := nI j + 1) (lv' := [(4, .int (nI j + 1)), (2, .long x), (0, .ref (a 0)), (1, .int model), (5, .long (woV (Z 0) (Y 1) model j 9 0 0)), (7, .int (nI k))]) hx hb dX7_worstOf_109 hl (k := 3) rfl rfl (by decide) rfl (fun ls hl => ?_)
            refine lv_goto (tgt := 5) hx hb dX7_worstOf_112 (by decide) ?_
            rw [nI_1] at hl
            exact ih5 (j := j + 1) (x := x) (ls := ls) ⟨by omega, by rw [← h5_1, woL, if_pos c_4], lv_sub hl [2, 3, 1, 0] rfl⟩
          · refine lv_lload hx hb dX7_worstOf_102 (lv_at hl 4 rfl) ?_
            refine lv_goto (tgt := 108) hx hb dX7_worstOf_104 (by decide) ?_
            refine lv_lstore_n (lv' := [(2, .long (woV (Z 0) (Y 1) model j 9 0 0)), (0, .ref (a 0)), (1, .int model), (4, .int (nI j)), (5, .long (woV (Z 0) (Y 1) model j 9 0 0)), (7, .int (nI k))]) hx hb dX7_worstOf_108 rfl hl (by decide) rfl (fun ls hl => ?_)
            refine lv_iinc (v := nI j + 1) (lv' := [(4, .int (nI j + 1)), (2, .long (woV (Z 0) (Y 1) model j 9 0 0)), (0, .ref (a 0)), (1, .int model), (5, .long (woV (Z 0) (Y 1) model j 9 0 0)), (7, .int (nI k))]) hx hb dX7_worstOf_109 hl (k := 3) rfl rfl (by decide) rfl (fun ls hl => ?_)
            refine lv_goto (tgt := 5) hx hb dX7_worstOf_112 (by decide) ?_
            rw [nI_1] at hl
            exact ih5 (j := j + 1) (x := (woV (Z 0) (Y 1) model j 9 0 0)) (ls := ls) ⟨by omega, by rw [← h5_1, woL, if_neg c_4], lv_sub hl [2, 3, 1, 0] rfl⟩
        · exact absurd (q_le (nI_lit 9) rfl (by omega) (by omega)) c_3
      | succ n20 ih20 =>
        obtain ⟨h20_0, h20_1, hl⟩ := hinv
        refine lv_iload hx hb dX7_worstOf_20 (lv_at hl 5 rfl) ?_
        refine lv_bipush (v := 9) hx hb dX7_worstOf_22 (by decide) ?_
        refine lv_icmp_ge (tgt := 95) hx hb dX7_worstOf_24 (by decide) (fun c_5 => ?_) (fun c_5 => ?_)
        · exact absurd c_5 (q_nle (nI_lit 9) rfl (by omega) (by omega))
        · refine lv_lload hx hb dX7_worstOf_27 (lv_at hl 4 rfl) ?_
          refine lv_iload hx hb dX7_worstOf_29 (lv_at hl 5 rfl) ?_
          refine lv_iconst (v := 3) hx hb dX7_worstOf_31 (by decide) ?_
          refine lv_idiv hx hb dX7_worstOf_32 (by decide) ?_
          refine xtopi (y := nI (k / 3)) (q_div rfl (nI_lit 3) (by omega) (by omega) (by omega)) ?_
          refine lv_iload_n hx hb dX7_worstOf_33 rfl (lv_at hl 1 rfl) ?_
          refine xri (r := f7_termsOf model) (rS (As := [.int model]) (n := 1) (rest := [.int (nI (k / 3)), .long v]) ⟨hx, hb, hml, hown, hW⟩ (kX7_termsOf l model) (wa tw687 rfl) (wa tw685 rfl) (wa tw686 rfl) (wa tw8 rfl) (by decide +kernel) ⟨Nat.le_of_ble_eq_true rfl, Nat.le_of_ble_eq_true rfl⟩ pS0 hl.1 rfl (Nat.le_of_ble_eq_true rfl) dX7_worstOf_34 ⟨Nat.le_of_ble_eq_true rfl, Nat.le_of_ble_eq_true rfl⟩ rfl rfl rfl) ?_
          refine lv_icmp_ge (tgt := 85) hx hb dX7_worstOf_37 (by decide) (fun c_6 => ?_) (fun c_6 => ?_)
          · refine lv_lconst (v := 0) hx hb dX7_worstOf_85 (by decide) ?_
            refine lv_ladd hx hb dX7_worstOf_86 ?_
            refine lv_lstore (lv' := [(5, .long (v + 0)), (0, .ref (a 0)), (1, .int model), (2, .long x), (4, .int (nI j)), (7, .int (nI k))]) hx hb dX7_worstOf_87 hl (by decide) rfl (fun ls hl => ?_)
            refine lv_iinc (v := nI k + 1) (lv' := [(7, .int (nI k + 1)), (5, .long (v + 0)), (0, .ref (a 0)), (1, .int model), (2, .long x), (4, .int (nI j))]) hx hb dX7_worstOf_89 hl (k := 5) rfl rfl (by decide) rfl (fun ls hl => ?_)
            refine lv_goto (tgt := 20) hx hb dX7_worstOf_92 (by decide) ?_
            rw [nI_1] at hl
            exact ih20 (k := k + 1) (v := (v + 0)) (ls := ls) ⟨by omega, by rw [← h20_1, woV]; simp only [if_pos c_6], lv_sub hl [2, 3, 4, 5, 1, 0] rfl⟩
          · refine lv_iload hx hb dX7_worstOf_40 (lv_at hl 5 rfl) ?_
            refine lv_iconst (v := 3) hx hb dX7_worstOf_42 (by decide) ?_
            refine lv_irem hx hb dX7_worstOf_43 (by decide) ?_
            refine xtopi (y := nI (k % 3)) (q_rem rfl (nI_lit 3) (by omega) (by omega) (by omega)) ?_
            refine lv_iload_n hx hb dX7_worstOf_44 rfl (lv_at hl 1 rfl) ?_
            refine xri (r := f7_termsOf model) (rS (As := [.int model]) (n := 1) (rest := [.int (nI (k % 3)), .long v]) ⟨hx, hb, hml, hown, hW⟩ (kX7_termsOf l model) (wa tw687 rfl) (wa tw685 rfl) (wa tw686 rfl) (wa tw8 rfl) (by decide +kernel) ⟨Nat.le_of_ble_eq_true rfl, Nat.le_of_ble_eq_true rfl⟩ pS0 hl.1 rfl (Nat.le_of_ble_eq_true rfl) dX7_worstOf_45 ⟨Nat.le_of_ble_eq_true rfl, Nat.le_of_ble_eq_true rfl⟩ rfl rfl rfl) ?_
            refine lv_icmp_ge (tgt := 85) hx hb dX7_worstOf_48 (by decide) (fun c_7 => ?_) (fun c_7 => ?_)
            · refine lv_lconst (v := 0) hx hb dX7_worstOf_85 (by decide) ?_
              refine lv_ladd hx hb dX7_worstOf_86 ?_
              refine lv_lstore (lv' := [(5, .long (v + 0)), (0, .ref (a 0)), (1, .int model), (2, .long x), (4, .int (nI j)), (7, .int (nI k))]) hx hb dX7_worstOf_87 hl (by decide) rfl (fun ls hl => ?_)
              refine lv_iinc (v := nI k + 1) (lv' := [(7, .int (nI k + 1)), (5, .long (v + 0)), (0, .ref (a 0)), (1, .int model), (2, .long x), (4, .int (nI j))]) hx hb dX7_worstOf_89 hl (k := 5) rfl rfl (by decide) rfl (fun ls hl => ?_)
              refine lv_goto (tgt := 20) hx hb dX7_worstOf_92 (by decide) ?_
              rw [nI_1] at hl
              exact ih20 (k := k + 1) (v := (v + 0)) (ls := ls) ⟨by omega, by rw [← h20_1, woV]; simp only [if_neg c_6, if_pos c_7], lv_sub hl [2, 3, 4, 5, 1, 0] rfl⟩
            · refine lv_aload_n hx hb dX7_worstOf_51 rfl (lv_at hl 0 rfl) ?_
              refine lv_iload_n hx hb dX7_worstOf_52 rfl (lv_at hl 1 rfl) ?_
              refine lv_iload hx hb dX7_worstOf_53 (lv_at hl 3 rfl) ?_
              refine lv_iload hx hb dX7_worstOf_55 (lv_at hl 5 rfl) ?_
              refine lv_iconst (v := 3) hx hb dX7_worstOf_57 (by decide) ?_
              refine lv_idiv hx hb dX7_worstOf_58 (by decide) ?_
              refine xtopi (y := nI (k / 3)) (q_div rfl (nI_lit 3) (by omega) (by omega) (by omega)) ?_
              refine xrl (r := f7_term (Z 0) model j (k / 3)) (rV (As := [.int model, .int (nI j), .int (nI (k / 3))]) (n := 3) (rest := [.long v]) ⟨hx, hb, hml, hown, hW⟩ (kX7_term l D C a Z Y model j (k / 3) (by omega) (by omega)) (wa tw691 rfl) (wa tw688 rfl) (wa tw690 rfl) (was ts42 rfl) (wa tw8 rfl) (by decide +kernel) ⟨Nat.le_of_ble_eq_true rfl, Nat.le_of_ble_eq_true rfl⟩ (pVr hP hK hNw 0 rfl rfl) hl.1 rfl (Nat.le_of_ble_eq_true rfl) dX7_worstOf_59 ⟨Nat.le_of_ble_eq_true rfl, Nat.le_of_ble_eq_true rfl⟩ rfl rfl rfl) ?_
              refine lv_aload_n hx hb dX7_worstOf_62 rfl (lv_at hl 0 rfl) ?_
              refine va_get (D := D) (ci := 7) (C := RX7) (T := TX7) (N := 23) hx hb hW inX7 hown hK hP 0 rfl rfl 16 (by decide) (hW _ (wa tw566 rfl)) (fun _ h9 => h9) rfl dX7_worstOf_63 ?_
              refine lv_iload hx hb dX7_worstOf_66 (lv_at hl 5 rfl) ?_
              refine xlald hx hb hK hP 12 rfl k rfl (by omega) (by decide) dX7_worstOf_68 ?_
              refine lv_lmul hx hb dX7_worstOf_69 ?_
              refine lv_aload_n hx hb dX7_worstOf_70 rfl (lv_at hl 0 rfl) ?_
              refine lv_iload_n hx hb dX7_worstOf_71 rfl (lv_at hl 1 rfl) ?_
              refine lv_iload hx hb dX7_worstOf_72 (lv_at hl 3 rfl) ?_
              refine lv_iload hx hb dX7_worstOf_74 (lv_at hl 5 rfl) ?_
              refine lv_iconst (v := 3) hx hb dX7_worstOf_76 (by decide) ?_
              refine lv_irem hx hb dX7_worstOf_77 (by decide) ?_
              refine xtopi (y := nI (k % 3)) (q_rem rfl (nI_lit 3) (by omega) (by omega) (by omega)) ?_
              refine xrl (r := f7_term (Z 0) model j (k % 3)) (rV (As := [.int model, .int (nI j), .int (nI (k % 3))]) (n := 3) (rest := [.long ((f7_term (Z 0) model j (k / 3)) * ((Y 1) k)), .long v]) ⟨hx, hb, hml, hown, hW⟩ (kX7_term l D C a Z Y model j (k % 3) (by omega) (by omega)) (wa tw691 rfl) (wa tw688 rfl) (wa tw690 rfl) (was ts42 rfl) (wa tw8 rfl) (by decide +kernel) ⟨Nat.le_of_ble_eq_true rfl, Nat.le_of_ble_eq_true rfl⟩ (pVr hP hK hNw 0 rfl rfl) hl.1 rfl (Nat.le_of_ble_eq_true rfl) dX7_worstOf_78 ⟨Nat.le_of_ble_eq_true rfl, Nat.le_of_ble_eq_true rfl⟩ rfl rfl rfl) ?_
              refine lv_lmul hx hb dX7_worstOf_81 ?_
              refine lv_goto (tgt := 86) hx hb dX7_worstOf_82 (by decide) ?_
              refine lv_ladd hx hb dX7_worstOf_86 ?_
              refine lv_lstore (lv' := [(5, .long (v + (((f7_term (Z 0) model j (k / 3)) * ((Y 1) k)) * (f7_term (Z 0) model j (k % 3))))), (0, .ref (a 0)), (1, .int model), (2, .long x), (4, .int (nI j)), (7, .int (nI k))]) hx hb dX7_worstOf_87 hl (by decide) rfl (fun ls hl => ?_)
              refine lv_iinc (v := nI k + 1) (lv' := [(7, .int (nI k + 1)), (5, .long (v + (((f7_term (Z 0) model j (k / 3)) * ((Y 1) k)) * (f7_term (Z 0) model j (k % 3))))), (0, .ref (a 0)), (1, .int model), (2, .long x), (4, .int (nI j))]) hx hb dX7_worstOf_89 hl (k := 5) rfl rfl (by decide) rfl (fun ls hl => ?_)
              refine lv_goto (tgt := 20) hx hb dX7_worstOf_92 (by decide) ?_
              rw [nI_1] at hl
              exact ih20 (k := k + 1) (v := (v + (((f7_term (Z 0) model j (k / 3)) * ((Y 1) k)) * (f7_term (Z 0) model j (k % 3))))) (ls := ls) ⟨by omega, by rw [← h20_1, woV]; simp only [if_neg c_6, if_neg c_7], lv_sub hl [2, 3, 4, 5, 1, 0] rfl⟩

def bdL (V : Nat → Int64) (ld : Int64) : Nat → Nat → Int32 → Int32
  | 0, _, x => x
  | n + 1, k, x => bdL V ld n (k + 1) (x ||| (if V k ≤ ld then 0 else (1 : Int32) <<< (nI k &&& 31)))

def f7_bad (Z : Nat → Nat → Int32) (Y : Nat → Nat → Int64) (N : Nat) (model limit what : Int32) : Int32 := (if (f7_isModel model) = 0 then ((-100002)) else (if (f7_in limit.toInt64 0 999) = 0 then ((-100002)) else (if (f7_in what.toInt64 0 2) = 0 then ((-100002)) else (if ((f7_findWorst (Z 0) (Z 1) Y model (f7_counting Z N) (ntOf model) N) 5 0) = 0 then ((-100003)) else (if what = 0 then (f7_bits (bdL ((f7_findWorst (Z 0) (Z 1) Y model (f7_counting Z N) (ntOf model) N) 4) (limit.toInt64 * (f7_findWorst (Z 0) (Z 1) Y model (f7_counting Z N) (ntOf model) N) 5 0) N 0 0)) else (if what = 1 then (f7_fieldsOf (Z 0) N (bdL ((f7_findWorst (Z 0) (Z 1) Y model (f7_counting Z N) (ntOf model) N) 4) (limit.toInt64 * (f7_findWorst (Z 0) (Z 1) Y model (f7_counting Z N) (ntOf model) N) 5 0) N 0 0)) else (if (2 * (f7_fieldsOf (Z 0) N (bdL ((f7_findWorst (Z 0) (Z 1) Y model (f7_counting Z N) (ntOf model) N) 4) (limit.toInt64 * (f7_findWorst (Z 0) (Z 1) Y model (f7_counting Z N) (ntOf model) N) 5 0) N 0 0))) ≤ (f7_fieldsOf (Z 0) N (f7_counting Z N)) then (0) else (1))))))))
def f7_bad_Y (Z : Nat → Nat → Int32) (Y : Nat → Nat → Int64) (N : Nat) (model limit what : Int32) : Nat → Nat → Int64 := (if (f7_isModel model) = 0 then (Y) else (if (f7_in limit.toInt64 0 999) = 0 then (Y) else (if (f7_in what.toInt64 0 2) = 0 then (Y) else (f7_findWorst (Z 0) (Z 1) Y model (f7_counting Z N) (ntOf model) N))))
set_option maxHeartbeats 4000000 in
set_option maxRecDepth 100000 in
theorem kX7_bad (l : Launch) (D : va_G) (C : Nat → ClassId) (a : Nat → Nat) (Z : Nat → Nat → Int32) (Y : Nat → Nat → Int64) (model limit what : Int32) (sz : Nat) (N : Nat) (hN : Z 12 0 = nI N) (hN12 : N ≤ 12) : Wi l D C yX7_bad cX7_bad 7 .int 4 [.ref (a 0), .int model, .int limit, .int what] (wZ a C Z Y) ((wZ a C Z (f7_bad_Y Z Y N model limit what))) (f7_bad Z Y N model limit what) sz := by
  refine Met.ofW (cc := cX7_bad) (maxL := 7) (ret := (some .int)) (by decide) rfl ?_
  intro p e s m args below meth c s₁ B hml hv
  obtain ⟨rfl, hsz, hP, hK, hNw, hD0⟩ := hv
  have hx := B.exec
  have hb := B.bytes
  have hr := B.returns
  have hts := atoms_spec (ws := wm yX7_bad cX7_bad 7 (some .int)) B.pre
  have hown : s.vm.findClass RX7 = some m.cls := findClass_of_methodNamed B.named
  have hlocks := B.notSynchronized
  have hW : ∀ w ∈ WA, w.before _ s = true := fun w h => hts w (List.mem_cons_of_mem _ h)
  subst hsz
  have hD := hD0.self (sz := s.heap.size)
  generalize hAe : va_A (wZ a C Z Y) s.heap.size = A at hD ⊢
  have hA : ∀ q : Nat, s.heap.size ≤ q → A q := fun q h => by rw [← hAe]; exact Or.inr h
  have hS : va_S A s.heap s.heap [] := va_S.rf
  have hP : va_P D vwCl [((a 0), .inr (7, [.int (Z 12 0), .ref (a 1), .ref (a 2), .ref (a 3), .ref (a 4), .int (Z 12 1), .ref (a 5), .ref (a 6), .ref (a 7), .ref (a 8), .ref (a 9), .int (Z 12 2), .ref (a 10), .int (Z 12 3), .int (Z 12 4), .ref (a 11), .ref (a 12), .long (Y 5 0), .ref (a 13), .ref (a 14), .ref (a 15), .ref (a 16), .ref (a 17)])), ((a 1), eI C 48 (Z 0)), ((a 2), eI C 24 (Z 1)), ((a 3), eZ C 12 (Z 2)), ((a 4), eZ C 12 (Z 3)), ((a 5), eI C 60 (Z 4)), ((a 6), eI C 60 (Z 5)), ((a 7), eI C 60 (Z 6)), ((a 8), eZ C 60 (Z 7)), ((a 9), eZ C 244 (Z 8)), ((a 10), eI C 24 (Z 9)), ((a 11), eJ C 9 (Y 0)), ((a 12), eJ C 9 (Y 1)), ((a 13), eJ C 3 (Y 2)), ((a 14), eJ C 3 (Y 3)), ((a 15), eJ C 12 (Y 4)), ((a 16), eI C 6 (Z 10)), ((a 17), eI C 4 (Z 11))] s.heap := hP
  have hD : va_D A [((a 0), .inr (7, [.int (Z 12 0), .ref (a 1), .ref (a 2), .ref (a 3), .ref (a 4), .int (Z 12 1), .ref (a 5), .ref (a 6), .ref (a 7), .ref (a 8), .ref (a 9), .int (Z 12 2), .ref (a 10), .int (Z 12 3), .int (Z 12 4), .ref (a 11), .ref (a 12), .long (Y 5 0), .ref (a 13), .ref (a 14), .ref (a 15), .ref (a 16), .ref (a 17)])), ((a 1), eI C 48 (Z 0)), ((a 2), eI C 24 (Z 1)), ((a 3), eZ C 12 (Z 2)), ((a 4), eZ C 12 (Z 3)), ((a 5), eI C 60 (Z 4)), ((a 6), eI C 60 (Z 5)), ((a 7), eI C 60 (Z 6)), ((a 8), eZ C 60 (Z 7)), ((a 9), eZ C 244 (Z 8)), ((a 10), eI C 24 (Z 9)), ((a 11), eJ C 9 (Y 0)), ((a 12), eJ C 9 (Y 1)), ((a 13), eJ C 3 (Y 2)), ((a 14), eJ C 3 (Y 3)), ((a 15), eJ C 12 (Y 4)), ((a 16), eI C 6 (Z 10)), ((a 17), eI C 4 (Z 11))] := hD
  have hl := lv_entry ([.ref (a 0), .int model, .int limit, .int what]) (n := 7) (Nat.le_of_ble_eq_true rfl)
  rw [lg_entry_eq]
  generalize (lg_sl ([.ref (a 0), .int model, .int limit, .int what]) ++ List.replicate (7 - (lg_sl ([.ref (a 0), .int model, .int limit, .int what])).length) Slot.unset).toArray = ls at hl ⊢
  have hl : lv_has ls 7 [(0, .ref (a 0)), (1, .int model), (2, .int limit), (3, .int what)] := hl
  refine lv_iload_n hx hb dX7_bad_0 rfl (lv_at hl 1 rfl) ?_
  refine xri (r := f7_isModel model) (rS (As := [.int model]) (n := 1) (rest := []) ⟨hx, hb, hml, hown, hW⟩ (kX7_isModel l model) (wa tw678 rfl) (wa tw676 rfl) (wa tw677 rfl) (wa tw8 rfl) (by decide +kernel) ⟨Nat.le_of_ble_eq_true rfl, Nat.le_of_ble_eq_true rfl⟩ pS0 hl.1 rfl (Nat.le_of_ble_eq_true rfl) dX7_bad_1 ⟨Nat.le_of_ble_eq_true rfl, Nat.le_of_ble_eq_true rfl⟩ rfl rfl rfl) ?_
  refine lv_if_eq (tgt := 31) hx hb dX7_bad_4 (by decide) (fun c_1 => ?_) (fun c_1 => ?_)
  · refine lv_ldc hx hb hown (hW _ (wa tw631 rfl)) dX7_bad_31 ?_
    have hb_0 : (f7_bad_Y Z Y N model limit what) = Y := (by simp only [f7_bad, f7_bad_Y, if_pos c_1])
    have hP9 : va_P D vwCl ((wZ a C Z (f7_bad_Y Z Y N model limit what))) s.heap := by rw [hb_0]; exact hP
    have hD9 : va_D A ((wZ a C Z (f7_bad_Y Z Y N model limit what))) := by rw [hb_0]; exact hD
    exact W.iret (v := (-100002)) hx hb hr (fun t ht _ => ⟨⟨_, (), rfl, (by simp only [f7_bad, f7_bad_Y, if_pos c_1]), ⟨by rw [ht]; exact hP9, by rw [hAe]; exact hD9⟩⟩, hS.F ht⟩) hS.2.2 dX7_bad_33
  · refine lv_iload_n hx hb dX7_bad_7 rfl (lv_at hl 2 rfl) ?_
    refine lv_i2l (v := limit.toInt64) hx hb dX7_bad_8 rfl ?_
    refine lv_lconst (v := 0) hx hb dX7_bad_9 (by decide) ?_
    refine lv_ldc2 hx hb hown (hW _ (wa tw643 rfl)) dX7_bad_10 ?_
    refine xri (r := f7_in limit.toInt64 0 999) (rS (As := [.long limit.toInt64, .long 0, .long 999]) (n := 3) (rest := []) ⟨hx, hb, hml, hown, hW⟩ (kX7_in l limit.toInt64 0 999) (wa tw628 rfl) (wa tw626 rfl) (wa tw627 rfl) (wa tw8 rfl) (by decide +kernel) ⟨Nat.le_of_ble_eq_true rfl, Nat.le_of_ble_eq_true rfl⟩ pS0 hl.1 rfl (Nat.le_of_ble_eq_true rfl) dX7_bad_13 ⟨Nat.le_of_ble_eq_true rfl, Nat.le_of_ble_eq_true rfl⟩ rfl rfl rfl) ?_
    refine lv_if_eq (tgt := 31) hx hb dX7_bad_16 (by decide) (fun c_2 => ?_) (fun c_2 => ?_)
    · refine lv_ldc hx hb hown (hW _ (wa tw631 rfl)) dX7_bad_31 ?_
      have hb_0 : (f7_bad_Y Z Y N model limit what) = Y := (by simp only [f7_bad, f7_bad_Y, if_neg c_1, if_pos c_2])
      have hP9 : va_P D vwCl ((wZ a C Z (f7_bad_Y Z Y N model limit what))) s.heap := by rw [hb_0]; exact hP
      have hD9 : va_D A ((wZ a C Z (f7_bad_Y Z Y N model limit what))) := by rw [hb_0]; exact hD
      exact W.iret (v := (-100002)) hx hb hr (fun t ht _ => ⟨⟨_, (), rfl, (by simp only [f7_bad, f7_bad_Y, if_neg c_1, if_pos c_2]), ⟨by rw [ht]; exact hP9, by rw [hAe]; exact hD9⟩⟩, hS.F ht⟩) hS.2.2 dX7_bad_33
    · refine lv_iload_n hx hb dX7_bad_19 rfl (lv_at hl 3 rfl) ?_
      refine lv_i2l (v := what.toInt64) hx hb dX7_bad_20 rfl ?_
      refine lv_lconst (v := 0) hx hb dX7_bad_21 (by decide) ?_
      refine lv_ldc2 hx hb hown (hW _ (wa tw679 rfl)) dX7_bad_22 ?_
      refine xri (r := f7_in what.toInt64 0 2) (rS (As := [.long what.toInt64, .long 0, .long 2]) (n := 3) (rest := []) ⟨hx, hb, hml, hown, hW⟩ (kX7_in l what.toInt64 0 2) (wa tw628 rfl) (wa tw626 rfl) (wa tw627 rfl) (wa tw8 rfl) (by decide +kernel) ⟨Nat.le_of_ble_eq_true rfl, Nat.le_of_ble_eq_true rfl⟩ pS0 hl.1 rfl (Nat.le_of_ble_eq_true rfl) dX7_bad_25 ⟨Nat.le_of_ble_eq_true rfl, Nat.le_of_ble_eq_true rfl⟩ rfl rfl rfl) ?_
      refine lv_if_ne (tgt := 34) hx hb dX7_bad_28 (by decide) (fun c_3 => ?_) (fun c_3 => ?_)
      · refine lv_aload_n hx hb dX7_bad_34 rfl (lv_at hl 0 rfl) ?_
        refine xri (r := f7_counting Z N) (rV (As := []) (n := 0) (rest := []) ⟨hx, hb, hml, hown, hW⟩ (kX7_counting l D C a Z Y  N hN hN12) (wa tw660 rfl) (wa tw657 rfl) (wa tw659 rfl) (was ts38 rfl) (wa tw8 rfl) (by decide +kernel) ⟨Nat.le_of_ble_eq_true rfl, Nat.le_of_ble_eq_true rfl⟩ (pVr hP hK hNw 0 rfl rfl) hl.1 rfl (Nat.le_of_ble_eq_true rfl) dX7_bad_35 ⟨Nat.le_of_ble_eq_true rfl, Nat.le_of_ble_eq_true rfl⟩ rfl rfl rfl) ?_
        refine lv_istore (lv' := [(4, .int (f7_counting Z N)), (0, .ref (a 0)), (1, .int model), (2, .int limit), (3, .int what)]) hx hb dX7_bad_38 hl (by decide) rfl (fun ls hl => ?_)
        refine lv_aload_n hx hb dX7_bad_40 rfl (lv_at hl 1 rfl) ?_
        refine lv_iload_n hx hb dX7_bad_41 rfl (lv_at hl 2 rfl) ?_
        refine lv_iload hx hb dX7_bad_42 (lv_at hl 0 rfl) ?_
        refine xwv (wr := []) (rV (As := [.int model, .int (f7_counting Z N)]) (n := 2) (rest := []) ⟨hx, hb, hml, hown, hW⟩ (kX7_findWorst l D C a Z Y model (f7_counting Z N) s.heap.size N hN hN12 (ntOf model) (ntOf_eq _) (ntOf_13 _)) (wa tw732 rfl) (wa tw729 rfl) (wa tw731 rfl) (was ts46 rfl) (wa tw8 rfl) (by decide +kernel) ⟨Nat.le_of_ble_eq_true rfl, Nat.le_of_ble_eq_true rfl⟩ (pVw hP hD hK hNw 0 rfl rfl) hl.1 rfl (Nat.le_of_ble_eq_true rfl) dX7_bad_44 ⟨Nat.le_of_ble_eq_true rfl, Nat.le_of_ble_eq_true rfl⟩ rfl rfl rfl) hP hD hS hA [0, 1, 2, 3, 4, 5, 6, 7, 8, 9, 10, 11, 12, 13, 14, 15, 16, 17] [] rfl rfl (by decide) (by decide) (fun H locs hP hD hS => ?_)
        have hP : va_P D vwCl [((a 0), .inr (7, [.int (Z 12 0), .ref (a 1), .ref (a 2), .ref (a 3), .ref (a 4), .int (Z 12 1), .ref (a 5), .ref (a 6), .ref (a 7), .ref (a 8), .ref (a 9), .int (Z 12 2), .ref (a 10), .int (Z 12 3), .int (Z 12 4), .ref (a 11), .ref (a 12), .long ((f7_findWorst (Z 0) (Z 1) Y model (f7_counting Z N) (ntOf model) N) 5 0), .ref (a 13), .ref (a 14), .ref (a 15), .ref (a 16), .ref (a 17)])), ((a 1), eI C 48 (Z 0)), ((a 2), eI C 24 (Z 1)), ((a 3), eZ C 12 (Z 2)), ((a 4), eZ C 12 (Z 3)), ((a 5), eI C 60 (Z 4)), ((a 6), eI C 60 (Z 5)), ((a 7), eI C 60 (Z 6)), ((a 8), eZ C 60 (Z 7)), ((a 9), eZ C 244 (Z 8)), ((a 10), eI C 24 (Z 9)), ((a 11), eJ C 9 ((f7_findWorst (Z 0) (Z 1) Y model (f7_counting Z N) (ntOf model) N) 0)), ((a 12), eJ C 9 ((f7_findWorst (Z 0) (Z 1) Y model (f7_counting Z N) (ntOf model) N) 1)), ((a 13), eJ C 3 ((f7_findWorst (Z 0) (Z 1) Y model (f7_counting Z N) (ntOf model) N) 2)), ((a 14), eJ C 3 ((f7_findWorst (Z 0) (Z 1) Y model (f7_counting Z N) (ntOf model) N) 3)), ((a 15), eJ C 12 ((f7_findWorst (Z 0) (Z 1) Y model (f7_counting Z N) (ntOf model) N) 4)), ((a 16), eI C 6 (Z 10)), ((a 17), eI C 4 (Z 11))] H := hP
        have hD : va_D A [((a 0), .inr (7, [.int (Z 12 0), .ref (a 1), .ref (a 2), .ref (a 3), .ref (a 4), .int (Z 12 1), .ref (a 5), .ref (a 6), .ref (a 7), .ref (a 8), .ref (a 9), .int (Z 12 2), .ref (a 10), .int (Z 12 3), .int (Z 12 4), .ref (a 11), .ref (a 12), .long ((f7_findWorst (Z 0) (Z 1) Y model (f7_counting Z N) (ntOf model) N) 5 0), .ref (a 13), .ref (a 14), .ref (a 15), .ref (a 16), .ref (a 17)])), ((a 1), eI C 48 (Z 0)), ((a 2), eI C 24 (Z 1)), ((a 3), eZ C 12 (Z 2)), ((a 4), eZ C 12 (Z 3)), ((a 5), eI C 60 (Z 4)), ((a 6), eI C 60 (Z 5)), ((a 7), eI C 60 (Z 6)), ((a 8), eZ C 60 (Z 7)), ((a 9), eZ C 244 (Z 8)), ((a 10), eI C 24 (Z 9)), ((a 11), eJ C 9 ((f7_findWorst (Z 0) (Z 1) Y model (f7_counting Z N) (ntOf model) N) 0)), ((a 12), eJ C 9 ((f7_findWorst (Z 0) (Z 1) Y model (f7_counting Z N) (ntOf model) N) 1)), ((a 13), eJ C 3 ((f7_findWorst (Z 0) (Z 1) Y model (f7_counting Z N) (ntOf model) N) 2)), ((a 14), eJ C 3 ((f7_findWorst (Z 0) (Z 1) Y model (f7_counting Z N) (ntOf model) N) 3)), ((a 15), eJ C 12 ((f7_findWorst (Z 0) (Z 1) Y model (f7_counting Z N) (ntOf model) N) 4)), ((a 16), eI C 6 (Z 10)), ((a 17), eI C 4 (Z 11))] := hD
        refine lv_aload_n hx hb dX7_bad_47 rfl (lv_at hl 1 rfl) ?_
        refine va_get (D := D) (ci := 7) (C := RX7) (T := TX7) (N := 23) hx hb hW inX7 hown hK hP 0 rfl rfl 17 (by decide) (hW _ (wa tw567 rfl)) (fun _ h9 => h9) rfl dX7_bad_48 ?_
        refine lv_lconst (v := 0) hx hb dX7_bad_51 (by decide) ?_
        refine xlcmp_ne (tgt := 59) hx hb dX7_bad_52 dX7_bad_53 (by decide) (fun c_4 => ?_) (fun c_4 => ?_)
        · refine lv_iconst (v := 0) hx hb dX7_bad_59 (by decide) ?_
          refine lv_istore (lv' := [(5, .int 0), (4, .int (f7_counting Z N)), (0, .ref (a 0)), (1, .int model), (2, .int limit), (3, .int what)]) hx hb dX7_bad_60 hl (by decide) rfl (fun ls hl => ?_)
          refine lv_iconst (v := 0) hx hb dX7_bad_62 (by decide) ?_
          refine lv_istore (lv' := [(6, .int 0), (5, .int 0), (4, .int (f7_counting Z N)), (0, .ref (a 0)), (1, .int model), (2, .int limit), (3, .int what)]) hx hb dX7_bad_63 hl (by decide) rfl (fun ls hl => ?_)
          obtain ⟨n65, k, x, hinv⟩ : ∃ (n65 : Nat) (k : Nat) (x : Int32), (k + n65 = N) ∧ (bdL ((f7_findWorst (Z 0) (Z 1) Y model (f7_counting Z N) (ntOf model) N) 4) (limit.toInt64 * (f7_findWorst (Z 0) (Z 1) Y model (f7_counting Z N) (ntOf model) N) 5 0) n65 k x = bdL ((f7_findWorst (Z 0) (Z 1) Y model (f7_counting Z N) (ntOf model) N) 4) (limit.toInt64 * (f7_findWorst (Z 0) (Z 1) Y model (f7_counting Z N) (ntOf model) N) 5 0) N 0 0) ∧ lv_has ls 7 [(0, .ref (a 0)), (1, .int model), (2, .int limit), (3, .int what), (4, .int (f7_counting Z N)), (5, .int x), (6, .int (nI k))] := ⟨N, 0, 0, by omega, rfl, lv_sub hl [3, 4, 5, 6, 2, 1, 0] rfl⟩
          clear hl
          induction n65 generalizing k x ls with
          | zero =>
            obtain ⟨h65_0, h65_1, hl⟩ := hinv
            refine lv_iload hx hb dX7_bad_65 (lv_at hl 6 rfl) ?_
            refine lv_aload_n hx hb dX7_bad_67 rfl (lv_at hl 0 rfl) ?_
            refine va_get (D := D) (ci := 7) (C := RX7) (T := TX7) (N := 23) hx hb hW inX7 hown hK hP 0 rfl rfl 0 (by decide) (hW _ (wa tw550 rfl)) (fun _ h9 => h9) rfl dX7_bad_68 ?_
            refine lv_icmp_ge (tgt := 111) hx hb dX7_bad_71 (by decide) (fun c_5 => ?_) (fun c_5 => ?_)
            · have e_x : x = bdL ((f7_findWorst (Z 0) (Z 1) Y model (f7_counting Z N) (ntOf model) N) 4) (limit.toInt64 * (f7_findWorst (Z 0) (Z 1) Y model (f7_counting Z N) (ntOf model) N) 5 0) N 0 0 := h65_1
              subst e_x
              refine lv_aload_n hx hb dX7_bad_111 rfl (lv_at hl 0 rfl) ?_
              refine lv_iload hx hb dX7_bad_112 (lv_at hl 5 rfl) ?_
              refine xri (r := f7_fieldsOf (Z 0) N (bdL ((f7_findWorst (Z 0) (Z 1) Y model (f7_counting Z N) (ntOf model) N) 4) (limit.toInt64 * (f7_findWorst (Z 0) (Z 1) Y model (f7_counting Z N) (ntOf model) N) 5 0) N 0 0)) (rV (As := [.int (bdL ((f7_findWorst (Z 0) (Z 1) Y model (f7_counting Z N) (ntOf model) N) 4) (limit.toInt64 * (f7_findWorst (Z 0) (Z 1) Y model (f7_counting Z N) (ntOf model) N) 5 0) N 0 0)]) (n := 1) (rest := []) ⟨hx, hb, hml, hown, hW⟩ (kX7_fieldsOf l D C a Z (f7_findWorst (Z 0) (Z 1) Y model (f7_counting Z N) (ntOf model) N) (bdL ((f7_findWorst (Z 0) (Z 1) Y model (f7_counting Z N) (ntOf model) N) 4) (limit.toInt64 * (f7_findWorst (Z 0) (Z 1) Y model (f7_counting Z N) (ntOf model) N) 5 0) N 0 0) N hN hN12) (wa tw671 rfl) (wa tw668 rfl) (wa tw670 rfl) (was ts40 rfl) (wa tw8 rfl) (by decide +kernel) ⟨Nat.le_of_ble_eq_true rfl, Nat.le_of_ble_eq_true rfl⟩ (pVr hP hK hNw 0 rfl rfl) hl.1 rfl (Nat.le_of_ble_eq_true rfl) dX7_bad_114 ⟨Nat.le_of_ble_eq_true rfl, Nat.le_of_ble_eq_true rfl⟩ rfl rfl rfl) ?_
              refine lv_istore (lv' := [(6, .int (f7_fieldsOf (Z 0) N (bdL ((f7_findWorst (Z 0) (Z 1) Y model (f7_counting Z N) (ntOf model) N) 4) (limit.toInt64 * (f7_findWorst (Z 0) (Z 1) Y model (f7_counting Z N) (ntOf model) N) 5 0) N 0 0))), (0, .ref (a 0)), (1, .int model), (2, .int limit), (3, .int what), (4, .int (f7_counting Z N)), (5, .int (bdL ((f7_findWorst (Z 0) (Z 1) Y model (f7_counting Z N) (ntOf model) N) 4) (limit.toInt64 * (f7_findWorst (Z 0) (Z 1) Y model (f7_counting Z N) (ntOf model) N) 5 0) N 0 0))]) hx hb dX7_bad_117 hl (by decide) rfl (fun ls hl => ?_)
              refine lv_iload_n hx hb dX7_bad_119 rfl (lv_at hl 4 rfl) ?_
              refine lv_if_ne (tgt := 131) hx hb dX7_bad_120 (by decide) (fun c_6 => ?_) (fun c_6 => ?_)
              · refine lv_iload_n hx hb dX7_bad_131 rfl (lv_at hl 4 rfl) ?_
                refine lv_iconst (v := 1) hx hb dX7_bad_132 (by decide) ?_
                refine lv_icmp_ne (tgt := 141) hx hb dX7_bad_133 (by decide) (fun c_7 => ?_) (fun c_7 => ?_)
                · refine lv_iconst (v := 2) hx hb dX7_bad_141 (by decide) ?_
                  refine lv_iload hx hb dX7_bad_142 (lv_at hl 0 rfl) ?_
                  refine lv_imul hx hb dX7_bad_144 ?_
                  refine lv_aload_n hx hb dX7_bad_145 rfl (lv_at hl 1 rfl) ?_
                  refine lv_iload hx hb dX7_bad_146 (lv_at hl 5 rfl) ?_
                  refine xri (r := f7_fieldsOf (Z 0) N (f7_counting Z N)) (rV (As := [.int (f7_counting Z N)]) (n := 1) (rest := [.int (2 * (f7_fieldsOf (Z 0) N (bdL ((f7_findWorst (Z 0) (Z 1) Y model (f7_counting Z N) (ntOf model) N) 4) (limit.toInt64 * (f7_findWorst (Z 0) (Z 1) Y model (f7_counting Z N) (ntOf model) N) 5 0) N 0 0)))]) ⟨hx, hb, hml, hown, hW⟩ (kX7_fieldsOf l D C a Z (f7_findWorst (Z 0) (Z 1) Y model (f7_counting Z N) (ntOf model) N) (f7_counting Z N) N hN hN12) (wa tw671 rfl) (wa tw668 rfl) (wa tw670 rfl) (was ts40 rfl) (wa tw8 rfl) (by decide +kernel) ⟨Nat.le_of_ble_eq_true rfl, Nat.le_of_ble_eq_true rfl⟩ (pVr hP hK hNw 0 rfl rfl) hl.1 rfl (Nat.le_of_ble_eq_true rfl) dX7_bad_148 ⟨Nat.le_of_ble_eq_true rfl, Nat.le_of_ble_eq_true rfl⟩ rfl rfl rfl) ?_
                  refine lv_icmp_le (tgt := 158) hx hb dX7_bad_151 (by decide) (fun c_8 => ?_) (fun c_8 => ?_)
                  · refine lv_iconst (v := 0) hx hb dX7_bad_158 (by decide) ?_
                    have hb_0 : (f7_bad_Y Z Y N model limit what) = f7_findWorst (Z 0) (Z 1) Y model (f7_counting Z N) (ntOf model) N := (by simp only [f7_bad, f7_bad_Y, if_neg c_1, if_neg c_2, if_neg c_3, if_neg c_4, if_neg c_6, if_neg c_7, if_pos c_8])
                    have hP9 : va_P D vwCl ((wZ a C Z (f7_bad_Y Z Y N model limit what))) H := by rw [hb_0]; exact hP
                    have hD9 : va_D A ((wZ a C Z (f7_bad_Y Z Y N model limit what))) := by rw [hb_0]; exact hD
                    exact W.iret (v := 0) hx hb hr (fun t ht _ => ⟨⟨_, (), rfl, (by simp only [f7_bad, f7_bad_Y, if_neg c_1, if_neg c_2, if_neg c_3, if_neg c_4, if_neg c_6, if_neg c_7, if_pos c_8]), ⟨by rw [ht]; exact hP9, by rw [hAe]; exact hD9⟩⟩, hS.F ht⟩) hS.2.2 dX7_bad_159
                  · refine lv_iconst (v := 1) hx hb dX7_bad_154 (by decide) ?_
                    refine lv_goto (tgt := 159) hx hb dX7_bad_155 (by decide) ?_
                    have hb_0 : (f7_bad_Y Z Y N model limit what) = f7_findWorst (Z 0) (Z 1) Y model (f7_counting Z N) (ntOf model) N := (by simp only [f7_bad, f7_bad_Y, if_neg c_1, if_neg c_2, if_neg c_3, if_neg c_4, if_neg c_6, if_neg c_7, if_neg c_8])
                    have hP9 : va_P D vwCl ((wZ a C Z (f7_bad_Y Z Y N model limit what))) H := by rw [hb_0]; exact hP
                    have hD9 : va_D A ((wZ a C Z (f7_bad_Y Z Y N model limit what))) := by rw [hb_0]; exact hD
                    exact W.iret (v := 1) hx hb hr (fun t ht _ => ⟨⟨_, (), rfl, (by simp only [f7_bad, f7_bad_Y, if_neg c_1, if_neg c_2, if_neg c_3, if_neg c_4, if_neg c_6, if_neg c_7, if_neg c_8]), ⟨by rw [ht]; exact hP9, by rw [hAe]; exact hD9⟩⟩, hS.F ht⟩) hS.2.2 dX7_bad_159
                · refine lv_iload hx hb dX7_bad_136 (lv_at hl 0 rfl) ?_
                  refine lv_goto (tgt := 159) hx hb dX7_bad_138 (by decide) ?_
                  have hb_0 : (f7_bad_Y Z Y N model limit what) = f7_findWorst (Z 0) (Z 1) Y model (f7_counting Z N) (ntOf model) N := (by simp only [f7_bad, f7_bad_Y, if_neg c_1, if_neg c_2, if_neg c_3, if_neg c_4, if_neg c_6, if_pos c_7])
                  have hP9 : va_P D vwCl ((wZ a C Z (f7_bad_Y Z Y N model limit what))) H := by rw [hb_0]; exact hP
                  have hD9 : va_D A ((wZ a C Z (f7_bad_Y Z Y N model limit what))) := by rw [hb_0]; exact hD
                  exact W.iret (v := f7_fieldsOf (Z 0) N (bdL ((f7_findWorst (Z 0) (Z 1) Y model (f7_counting Z N) (ntOf model) N) 4) (limit.toInt64 * (f7_findWorst (Z 0) (Z 1) Y model (f7_counting Z N) (ntOf model) N) 5 0) N 0 0)) hx hb hr (fun t ht _ => ⟨⟨_, (), rfl, (by simp only [f7_bad, f7_bad_Y, if_neg c_1, if_neg c_2, if_neg c_3, if_neg c_4, if_neg c_6, if_pos c_7]), ⟨by rw [ht]; exact hP9, by rw [hAe]; exact hD9⟩⟩, hS.F ht⟩) hS.2.2 dX7_bad_159
              · refine lv_iload hx hb dX7_bad_123 (lv_at hl 6 rfl) ?_
                refine xri (r := f7_bits (bdL ((f7_findWorst (Z 0) (Z 1) Y model (f7_counting Z N) (ntOf model) N) 4) (limit.toInt64 * (f7_findWorst (Z 0) (Z 1) Y model (f7_counting Z N) (ntOf model) N) 5 0) N 0 0)) (rS (As := [.int (bdL ((f7_findWorst (Z 0) (Z 1) Y model (f7_counting Z N) (ntOf model) N) 4) (limit.toInt64 * (f7_findWorst (Z 0) (Z 1) Y model (f7_counting Z N) (ntOf model) N) 5 0) N 0 0)]) (n := 1) (rest := []) ⟨hx, hb, hml, hown, hW⟩ (kX7_bits l (bdL ((f7_findWorst (Z 0) (Z 1) Y model (f7_counting Z N) (ntOf model) N) 4) (limit.toInt64 * (f7_findWorst (Z 0) (Z 1) Y model (f7_counting Z N) (ntOf model) N) 5 0) N 0 0)) (wa tw667 rfl) (wa tw665 rfl) (wa tw666 rfl) (wa tw8 rfl) (by decide +kernel) ⟨Nat.le_of_ble_eq_true rfl, Nat.le_of_ble_eq_true rfl⟩ pS0 hl.1 rfl (Nat.le_of_ble_eq_true rfl) dX7_bad_125 ⟨Nat.le_of_ble_eq_true rfl, Nat.le_of_ble_eq_true rfl⟩ rfl rfl rfl) ?_
                refine lv_goto (tgt := 159) hx hb dX7_bad_128 (by decide) ?_
                have hb_0 : (f7_bad_Y Z Y N model limit what) = f7_findWorst (Z 0) (Z 1) Y model (f7_counting Z N) (ntOf model) N := (by simp only [f7_bad, f7_bad_Y, if_neg c_1, if_neg c_2, if_neg c_3, if_neg c_4, if_pos c_6])
                have hP9 : va_P D vwCl ((wZ a C Z (f7_bad_Y Z Y N model limit what))) H := by rw [hb_0]; exact hP
                have hD9 : va_D A ((wZ a C Z (f7_bad_Y Z Y N model limit what))) := by rw [hb_0]; exact hD
                exact W.iret (v := f7_bits (bdL ((f7_findWorst (Z 0) (Z 1) Y model (f7_counting Z N) (ntOf model) N) 4) (limit.toInt64 * (f7_findWorst (Z 0) (Z 1) Y model (f7_counting Z N) (ntOf model) N) 5 0) N 0 0)) hx hb hr (fun t ht _ => ⟨⟨_, (), rfl, (by simp only [f7_bad, f7_bad_Y, if_neg c_1, if_neg c_2, if_neg c_3, if_neg c_4, if_pos c_6]), ⟨by rw [ht]; exact hP9, by rw [hAe]; exact hD9⟩⟩, hS.F ht⟩) hS.2.2 dX7_bad_159
            · exact absurd (q_le hN rfl (by omega) (by omega)) c_5
          | succ n65 ih65 =>
            obtain ⟨h65_0, h65_1, hl⟩ := hinv
            refine lv_iload hx hb dX7_bad_65 (lv_at hl 6 rfl) ?_
            refine lv_aload_n hx hb dX7_bad_67 rfl (lv_at hl 0 rfl) ?_
            refine va_get (D := D) (ci := 7) (C := RX7) (T := TX7) (N := 23) hx hb hW inX7 hown hK hP 0 rfl rfl 0 (by decide) (hW _ (wa tw550 rfl)) (fun _ h9 => h9) rfl dX7_bad_68 ?_
            refine lv_icmp_ge (tgt := 111) hx hb dX7_bad_71 (by decide) (fun c_9 => ?_) (fun c_9 => ?_)
            · exact absurd c_9 (q_nle hN rfl (by omega) (by omega))
            · refine lv_iload hx hb dX7_bad_74 (lv_at hl 5 rfl) ?_
              refine lv_aload_n hx hb dX7_bad_76 rfl (lv_at hl 0 rfl) ?_
              refine va_get (D := D) (ci := 7) (C := RX7) (T := TX7) (N := 23) hx hb hW inX7 hown hK hP 0 rfl rfl 20 (by decide) (hW _ (wa tw570 rfl)) (fun _ h9 => h9) rfl dX7_bad_77 ?_
              refine lv_iload hx hb dX7_bad_80 (lv_at hl 6 rfl) ?_
              refine xlald hx hb hK hP 15 rfl k rfl (by omega) (by decide) dX7_bad_82 ?_
              refine lv_iload_n hx hb dX7_bad_83 rfl (lv_at hl 2 rfl) ?_
              refine lv_i2l (v := limit.toInt64) hx hb dX7_bad_84 rfl ?_
              refine lv_aload_n hx hb dX7_bad_85 rfl (lv_at hl 0 rfl) ?_
              refine va_get (D := D) (ci := 7) (C := RX7) (T := TX7) (N := 23) hx hb hW inX7 hown hK hP 0 rfl rfl 17 (by decide) (hW _ (wa tw567 rfl)) (fun _ h9 => h9) rfl dX7_bad_86 ?_
              refine lv_lmul hx hb dX7_bad_89 ?_
              refine xlcmp_le (tgt := 101) hx hb dX7_bad_90 dX7_bad_91 (by decide) (fun c_10 => ?_) (fun c_10 => ?_)
              · refine lv_iconst (v := 0) hx hb dX7_bad_101 (by decide) ?_
                refine lv_ior hx hb dX7_bad_102 ?_
                refine lv_istore (lv' := [(5, .int (x ||| 0)), (0, .ref (a 0)), (1, .int model), (2, .int limit), (3, .int what), (4, .int (f7_counting Z N)), (6, .int (nI k))]) hx hb dX7_bad_103 hl (by decide) rfl (fun ls hl => ?_)
                refine lv_iinc (v := nI k + 1) (lv' := [(6, .int (nI k + 1)), (5, .int (x ||| 0)), (0, .ref (a 0)), (1, .int model), (2, .int limit), (3, .int what), (4, .int (f7_counting Z N))]) hx hb dX7_bad_105 hl (k := 6) rfl rfl (by decide) rfl (fun ls hl => ?_)
                refine lv_goto (tgt := 65) hx hb dX7_bad_108 (by decide) ?_
                rw [nI_1] at hl
                exact ih65 (k := k + 1) (x := (x ||| 0)) (ls := ls) ⟨by omega, by rw [← h65_1, bdL, if_pos c_10], lv_sub hl [2, 3, 4, 5, 6, 1, 0] rfl⟩
              · refine lv_iconst (v := 1) hx hb dX7_bad_94 (by decide) ?_
                refine lv_iload hx hb dX7_bad_95 (lv_at hl 6 rfl) ?_
                refine lv_ishl hx hb dX7_bad_97 ?_
                refine lv_goto (tgt := 102) hx hb dX7_bad_98 (by decide) ?_
                refine lv_ior hx hb dX7_bad_102 ?_
                refine lv_istore (lv' := [(5, .int (x ||| ((1 : Int32) <<< ((nI k) &&& 31)))), (0, .ref (a 0)), (1, .int model), (2, .int limit), (3, .int what), (4, .int (f7_counting Z N)), (6, .int (nI k))]) hx hb dX7_bad_103 hl (by decide) rfl (fun ls hl => ?_)
                refine lv_iinc (v := nI k + 1) (lv' := [(6, .int (nI k + 1)), (5, .int (x ||| ((1 : Int32) <<< ((nI k) &&& 31)))), (0, .ref (a 0)), (1, .int model), (2, .int limit), (3, .int what), (4, .int (f7_counting Z N))]) hx hb dX7_bad_105 hl (k := 6) rfl rfl (by decide) rfl (fun ls hl => ?_)
                refine lv_goto (tgt := 65) hx hb dX7_bad_108 (by decide) ?_
                rw [nI_1] at hl
                exact ih65 (k := k + 1) (x := (x ||| ((1 : Int32) <<< ((nI k) &&& 31)))) (ls := ls) ⟨by omega, by rw [← h65_1, bdL, if_neg c_10], lv_sub hl [2, 3, 4, 5, 6, 1, 0] rfl⟩
        · refine lv_ldc hx hb hown (hW _ (wa tw728 rfl)) dX7_bad_56 ?_
          have hb_0 : (f7_bad_Y Z Y N model limit what) = f7_findWorst (Z 0) (Z 1) Y model (f7_counting Z N) (ntOf model) N := (by simp only [f7_bad, f7_bad_Y, if_neg c_1, if_neg c_2, if_neg c_3, if_pos c_4])
          have hP9 : va_P D vwCl ((wZ a C Z (f7_bad_Y Z Y N model limit what))) H := by rw [hb_0]; exact hP
          have hD9 : va_D A ((wZ a C Z (f7_bad_Y Z Y N model limit what))) := by rw [hb_0]; exact hD
          exact W.iret (v := (-100003)) hx hb hr (fun t ht _ => ⟨⟨_, (), rfl, (by simp only [f7_bad, f7_bad_Y, if_neg c_1, if_neg c_2, if_neg c_3, if_pos c_4]), ⟨by rw [ht]; exact hP9, by rw [hAe]; exact hD9⟩⟩, hS.F ht⟩) hS.2.2 dX7_bad_58
      · refine lv_ldc hx hb hown (hW _ (wa tw631 rfl)) dX7_bad_31 ?_
        have hb_0 : (f7_bad_Y Z Y N model limit what) = Y := (by simp only [f7_bad, f7_bad_Y, if_neg c_1, if_neg c_2, if_pos c_3])
        have hP9 : va_P D vwCl ((wZ a C Z (f7_bad_Y Z Y N model limit what))) s.heap := by rw [hb_0]; exact hP
        have hD9 : va_D A ((wZ a C Z (f7_bad_Y Z Y N model limit what))) := by rw [hb_0]; exact hD
        exact W.iret (v := (-100002)) hx hb hr (fun t ht _ => ⟨⟨_, (), rfl, (by simp only [f7_bad, f7_bad_Y, if_neg c_1, if_neg c_2, if_pos c_3]), ⟨by rw [ht]; exact hP9, by rw [hAe]; exact hD9⟩⟩, hS.F ht⟩) hS.2.2 dX7_bad_33

def lrL : Nat → Nat → (Nat → Int32) → Nat → Int32
  | 0, _, T => T
  | r + 1, q, T => lrL r (q / 4) (upd T r (nI (q % 4)))

set_option maxHeartbeats 4000000 in
set_option maxRecDepth 100000 in
theorem kX7_layRoute (l : Launch) (D : va_G) (C : Nat → ClassId) (a : Nat → Nat) (Z : Nat → Nat → Int32) (Y : Nat → Nat → Int64) (n c0 : Nat) (sz : Nat) (hn6 : n ≤ 6) (hc0 : c0 < 4096) : Wv l D C yX7_layRoute cX7_layRoute 5 0 [.ref (a 0), .int (nI n), .int (nI c0)] (wZ a C Z Y) ((wZ a C (uM Z 10 (lrL n c0 (Z 10))) Y)) sz := by
  refine Met.ofW (cc := cX7_layRoute) (maxL := 5) (ret := none) (by decide) rfl ?_
  intro p e s m args below meth c s₁ B hml hv
  obtain ⟨rfl, hsz, hP, hK, hNw, hD0⟩ := hv
  have hx := B.exec
  have hb := B.bytes
  have hr := B.returns
  have hts := atoms_spec (ws := wm yX7_layRoute cX7_layRoute 5 none) B.pre
  have hown : s.vm.findClass RX7 = some m.cls := findClass_of_methodNamed B.named
  have hlocks := B.notSynchronized
  have hW : ∀ w ∈ WA, w.before _ s = true := fun w h => hts w (List.mem_cons_of_mem _ h)
  subst hsz
  have hD := hD0.self (sz := s.heap.size)
  generalize hAe : va_A (wZ a C Z Y) s.heap.size = A at hD ⊢
  have hA : ∀ q : Nat, s.heap.size ≤ q → A q := fun q h => by rw [← hAe]; exact Or.inr h
  have hS : va_S A s.heap s.heap [] := va_S.rf
  have hP : va_P D vwCl [((a 0), .inr (7, [.int (Z 12 0), .ref (a 1), .ref (a 2), .ref (a 3), .ref (a 4), .int (Z 12 1), .ref (a 5), .ref (a 6), .ref (a 7), .ref (a 8), .ref (a 9), .int (Z 12 2), .ref (a 10), .int (Z 12 3), .int (Z 12 4), .ref (a 11), .ref (a 12), .long (Y 5 0), .ref (a 13), .ref (a 14), .ref (a 15), .ref (a 16), .ref (a 17)])), ((a 1), eI C 48 (Z 0)), ((a 2), eI C 24 (Z 1)), ((a 3), eZ C 12 (Z 2)), ((a 4), eZ C 12 (Z 3)), ((a 5), eI C 60 (Z 4)), ((a 6), eI C 60 (Z 5)), ((a 7), eI C 60 (Z 6)), ((a 8), eZ C 60 (Z 7)), ((a 9), eZ C 244 (Z 8)), ((a 10), eI C 24 (Z 9)), ((a 11), eJ C 9 (Y 0)), ((a 12), eJ C 9 (Y 1)), ((a 13), eJ C 3 (Y 2)), ((a 14), eJ C 3 (Y 3)), ((a 15), eJ C 12 (Y 4)), ((a 16), eI C 6 (Z 10)), ((a 17), eI C 4 (Z 11))] s.heap := hP
  have hD : va_D A [((a 0), .inr (7, [.int (Z 12 0), .ref (a 1), .ref (a 2), .ref (a 3), .ref (a 4), .int (Z 12 1), .ref (a 5), .ref (a 6), .ref (a 7), .ref (a 8), .ref (a 9), .int (Z 12 2), .ref (a 10), .int (Z 12 3), .int (Z 12 4), .ref (a 11), .ref (a 12), .long (Y 5 0), .ref (a 13), .ref (a 14), .ref (a 15), .ref (a 16), .ref (a 17)])), ((a 1), eI C 48 (Z 0)), ((a 2), eI C 24 (Z 1)), ((a 3), eZ C 12 (Z 2)), ((a 4), eZ C 12 (Z 3)), ((a 5), eI C 60 (Z 4)), ((a 6), eI C 60 (Z 5)), ((a 7), eI C 60 (Z 6)), ((a 8), eZ C 60 (Z 7)), ((a 9), eZ C 244 (Z 8)), ((a 10), eI C 24 (Z 9)), ((a 11), eJ C 9 (Y 0)), ((a 12), eJ C 9 (Y 1)), ((a 13), eJ C 3 (Y 2)), ((a 14), eJ C 3 (Y 3)), ((a 15), eJ C 12 (Y 4)), ((a 16), eI C 6 (Z 10)), ((a 17), eI C 4 (Z 11))] := hD
  have hl := lv_entry ([.ref (a 0), .int (nI n), .int (nI c0)]) (n := 5) (Nat.le_of_ble_eq_true rfl)
  rw [lg_entry_eq]
  generalize (lg_sl ([.ref (a 0), .int (nI n), .int (nI c0)]) ++ List.replicate (5 - (lg_sl ([.ref (a 0), .int (nI n), .int (nI c0)])).length) Slot.unset).toArray = ls at hl ⊢
  have hl : lv_has ls 5 [(0, .ref (a 0)), (1, .int (nI n)), (2, .int (nI c0))] := hl
  refine lv_iload_n hx hb dX7_layRoute_0 rfl (lv_at hl 2 rfl) ?_
  refine lv_istore_n (lv' := [(3, .int (nI c0)), (0, .ref (a 0)), (1, .int (nI n)), (2, .int (nI c0))]) hx hb dX7_layRoute_1 rfl hl (by decide) rfl (fun ls hl => ?_)
  refine lv_iload_n hx hb dX7_layRoute_2 rfl (lv_at hl 2 rfl) ?_
  refine lv_iconst (v := 1) hx hb dX7_layRoute_3 (by decide) ?_
  refine lv_isub hx hb dX7_layRoute_4 ?_
  refine lv_istore (lv' := [(4, .int ((nI n) - 1)), (3, .int (nI c0)), (0, .ref (a 0)), (1, .int (nI n)), (2, .int (nI c0))]) hx hb dX7_layRoute_5 hl (by decide) rfl (fun ls hl => ?_)
  refine xgen hP hS (fun H locs hP hS => ?_)
  obtain ⟨n7, q, T1, hinv⟩ : ∃ (n7 : Nat) (q : Nat) (T1 : Nat → Int32), (n7 ≤ 6) ∧ (q < 4096) ∧ (lrL n7 q T1 = lrL n c0 (Z 10)) ∧ lv_has ls 5 [(0, .ref (a 0)), (1, .int (nI n)), (2, .int (nI c0)), (3, .int (nI q)), (4, .int (nI n7 - 1))] ∧ va_P D vwCl [((a 0), .inr (7, [.int (Z 12 0), .ref (a 1), .ref (a 2), .ref (a 3), .ref (a 4), .int (Z 12 1), .ref (a 5), .ref (a 6), .ref (a 7), .ref (a 8), .ref (a 9), .int (Z 12 2), .ref (a 10), .int (Z 12 3), .int (Z 12 4), .ref (a 11), .ref (a 12), .long (Y 5 0), .ref (a 13), .ref (a 14), .ref (a 15), .ref (a 16), .ref (a 17)])), ((a 1), eI C 48 (Z 0)), ((a 2), eI C 24 (Z 1)), ((a 3), eZ C 12 (Z 2)), ((a 4), eZ C 12 (Z 3)), ((a 5), eI C 60 (Z 4)), ((a 6), eI C 60 (Z 5)), ((a 7), eI C 60 (Z 6)), ((a 8), eZ C 60 (Z 7)), ((a 9), eZ C 244 (Z 8)), ((a 10), eI C 24 (Z 9)), ((a 11), eJ C 9 (Y 0)), ((a 12), eJ C 9 (Y 1)), ((a 13), eJ C 3 (Y 2)), ((a 14), eJ C 3 (Y 3)), ((a 15), eJ C 12 (Y 4)), ((a 16), eI C 6 T1), ((a 17), eI C 4 (Z 11))] H ∧ va_D A [((a 0), .inr (7, [.int (Z 12 0), .ref (a 1), .ref (a 2), .ref (a 3), .ref (a 4), .int (Z 12 1), .ref (a 5), .ref (a 6), .ref (a 7), .ref (a 8), .ref (a 9), .int (Z 12 2), .ref (a 10), .int (Z 12 3), .int (Z 12 4), .ref (a 11), .ref (a 12), .long (Y 5 0), .ref (a 13), .ref (a 14), .ref (a 15), .ref (a 16), .ref (a 17)])), ((a 1), eI C 48 (Z 0)), ((a 2), eI C 24 (Z 1)), ((a 3), eZ C 12 (Z 2)), ((a 4), eZ C 12 (Z 3)), ((a 5), eI C 60 (Z 4)), ((a 6), eI C 60 (Z 5)), ((a 7), eI C 60 (Z 6)), ((a 8), eZ C 60 (Z 7)), ((a 9), eZ C 244 (Z 8)), ((a 10), eI C 24 (Z 9)), ((a 11), eJ C 9 (Y 0)), ((a 12), eJ C 9 (Y 1)), ((a 13), eJ C 3 (Y 2)), ((a 14), eJ C 3 (Y 3)), ((a 15), eJ C 12 (Y 4)), ((a 16), eI C 6 T1), ((a 17), eI C 4 (Z 11))] ∧ va_S A s.heap H locs := ⟨n, c0, (Z 10), hn6, hc0, rfl, lv_sub hl [2, 3, 4, 1, 0] rfl, hP, hD, hS⟩
  clear hl hP hD hS
  induction n7 generalizing q T1 ls H locs with
  | zero =>
    obtain ⟨h7_0, h7_1, h7_2, hl, hP, hD, hS⟩ := hinv
    refine lv_iload hx hb dX7_layRoute_7 (lv_at hl 4 rfl) ?_
    refine lv_if_lt (tgt := 32) hx hb dX7_layRoute_9 (by decide) (fun c_1 => ?_) (fun c_1 => ?_)
    · have e_T1 : T1 = lrL n c0 (Z 10) := h7_2
      subst e_T1
      have hP9 : va_P D vwCl ((wZ a C (uM Z 10 (lrL n c0 (Z 10))) Y)) H := hP
      have hD9 : va_D A ((wZ a C (uM Z 10 (lrL n c0 (Z 10))) Y)) := hD
      exact W.vret hx hb hr (fun t ht _ => ⟨⟨(), rfl, trivial, ⟨by rw [ht]; exact hP9, by rw [hAe]; exact hD9⟩⟩, hS.F ht⟩) hS.2.2 dX7_layRoute_32
    · exact absurd (by decide) c_1
  | succ n7 ih7 =>
    obtain ⟨h7_0, h7_1, h7_2, hl, hP, hD, hS⟩ := hinv
    refine lv_iload hx hb dX7_layRoute_7 (lv_at hl 4 rfl) ?_
    refine lv_if_lt (tgt := 32) hx hb dX7_layRoute_9 (by decide) (fun c_2 => ?_) (fun c_2 => ?_)
    · exact absurd c_2 (by rw [nI_pred]; exact nI_pos (by omega))
    · rw [nI_pred] at hl
      refine lv_aload_n hx hb dX7_layRoute_12 rfl (lv_at hl 0 rfl) ?_
      refine va_get (D := D) (ci := 7) (C := RX7) (T := TX7) (N := 23) hx hb hW inX7 hown hK hP 0 rfl rfl 21 (by decide) (hW _ (wa tw571 rfl)) (fun _ h9 => h9) rfl dX7_layRoute_13 ?_
      refine lv_iload hx hb dX7_layRoute_16 (lv_at hl 4 rfl) ?_
      refine lv_iload_n hx hb dX7_layRoute_18 rfl (lv_at hl 3 rfl) ?_
      refine lv_iconst (v := 4) hx hb dX7_layRoute_19 (by decide) ?_
      refine lv_irem hx hb dX7_layRoute_20 (by decide) ?_
      refine xtopi (y := nI (q % 4)) (q_rem rfl (nI_lit 4) (by omega) (by omega) (by omega)) ?_
      refine xiast hx hb hK hP hD hS 16 rfl n7 rfl (by omega) (by decide) dX7_layRoute_21 (fun H locs hP hD hS => ?_)
      have hP : va_P D vwCl [((a 0), .inr (7, [.int (Z 12 0), .ref (a 1), .ref (a 2), .ref (a 3), .ref (a 4), .int (Z 12 1), .ref (a 5), .ref (a 6), .ref (a 7), .ref (a 8), .ref (a 9), .int (Z 12 2), .ref (a 10), .int (Z 12 3), .int (Z 12 4), .ref (a 11), .ref (a 12), .long (Y 5 0), .ref (a 13), .ref (a 14), .ref (a 15), .ref (a 16), .ref (a 17)])), ((a 1), eI C 48 (Z 0)), ((a 2), eI C 24 (Z 1)), ((a 3), eZ C 12 (Z 2)), ((a 4), eZ C 12 (Z 3)), ((a 5), eI C 60 (Z 4)), ((a 6), eI C 60 (Z 5)), ((a 7), eI C 60 (Z 6)), ((a 8), eZ C 60 (Z 7)), ((a 9), eZ C 244 (Z 8)), ((a 10), eI C 24 (Z 9)), ((a 11), eJ C 9 (Y 0)), ((a 12), eJ C 9 (Y 1)), ((a 13), eJ C 3 (Y 2)), ((a 14), eJ C 3 (Y 3)), ((a 15), eJ C 12 (Y 4)), ((a 16), eI C 6 (upd T1 n7 (nI (q % 4)))), ((a 17), eI C 4 (Z 11))] H := hP
      have hD : va_D A [((a 0), .inr (7, [.int (Z 12 0), .ref (a 1), .ref (a 2), .ref (a 3), .ref (a 4), .int (Z 12 1), .ref (a 5), .ref (a 6), .ref (a 7), .ref (a 8), .ref (a 9), .int (Z 12 2), .ref (a 10), .int (Z 12 3), .int (Z 12 4), .ref (a 11), .ref (a 12), .long (Y 5 0), .ref (a 13), .ref (a 14), .ref (a 15), .ref (a 16), .ref (a 17)])), ((a 1), eI C 48 (Z 0)), ((a 2), eI C 24 (Z 1)), ((a 3), eZ C 12 (Z 2)), ((a 4), eZ C 12 (Z 3)), ((a 5), eI C 60 (Z 4)), ((a 6), eI C 60 (Z 5)), ((a 7), eI C 60 (Z 6)), ((a 8), eZ C 60 (Z 7)), ((a 9), eZ C 244 (Z 8)), ((a 10), eI C 24 (Z 9)), ((a 11), eJ C 9 (Y 0)), ((a 12), eJ C 9 (Y 1)), ((a 13), eJ C 3 (Y 2)), ((a 14), eJ C 3 (Y 3)), ((a 15), eJ C 12 (Y 4)), ((a 16), eI C 6 (upd T1 n7 (nI (q % 4)))), ((a 17), eI C 4 (Z 11))] := hD
      refine lv_iload_n hx hb dX7_layRoute_22 rfl (lv_at hl 3 rfl) ?_
      refine lv_iconst (v := 4) hx hb dX7_layRoute_23 (by decide) ?_
      refine lv_idiv hx hb dX7_layRoute_24 (by decide) ?_
      refine xtopi (y := nI (q / 4)) (q_div rfl (nI_lit 4) (by omega) (by omega) (by omega)) ?_
      refine lv_istore_n (lv' := [(3, .int (nI (q / 4))), (0, .ref (a 0)), (1, .int (nI n)), (2, .int (nI c0)), (4, .int (nI n7))]) hx hb dX7_layRoute_25 rfl hl (by decide) rfl (fun ls hl => ?_)
      refine lv_iinc (v := nI n7 + (-1)) (lv' := [(4, .int (nI n7 + (-1))), (3, .int (nI (q / 4))), (0, .ref (a 0)), (1, .int (nI n)), (2, .int (nI c0))]) hx hb dX7_layRoute_26 hl (k := 4) rfl rfl (by decide) rfl (fun ls hl => ?_)
      refine lv_goto (tgt := 7) hx hb dX7_layRoute_29 (by decide) ?_
      rw [show nI n7 + (-1) = nI n7 - 1 from (Int32.sub_eq_add_neg _ _).symm] at hl
      exact ih7 (q := (q / 4)) (T1 := (upd T1 n7 (nI (q % 4)))) (ls := ls) (H := H) (locs := locs) ⟨by omega, by omega, h7_2, lv_sub hl [2, 3, 4, 1, 0] rfl, hP, hD, hS⟩
