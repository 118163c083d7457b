def cbL (row : Nat → Int32) : Nat → Nat → Int32 → Int32
  | 0, _, x => x
  | n + 1, k, x => cbL row n (k + 1) (x + (if row k = 0 then 0 else 1))

def f7_count (Z : Nat → Nat → Int32) (N L : Nat) (what : Int32) : Int32 := (if what = 0 then (Z 12 0) else (if what = 1 then (cbL (Z 2) N 0 0) else (if what = 2 then (cbL (Z 3) N 0 0) else (if what = 3 then (f7_bits (f7_counting Z N)) else (if what = 4 then (Z 12 1) else (if what = 5 then ((cbL (Z 7) L 0 0)) else (if what = 6 then (f7_fieldsOf (Z 0) N (f7_counting Z N)) else ((-100002)))))))))
set_option maxHeartbeats 4000000 in
set_option maxRecDepth 100000 in
theorem kX7_count (l : Launch) (D : va_G) (C : Nat → ClassId) (a : Nat → Nat) (Z : Nat → Nat → Int32) (Y : Nat → Nat → Int64) (what : Int32) (N : Nat) (hN : Z 12 0 = nI N) (hN12 : N ≤ 12) (L : Nat) (hL : Z 12 1 = nI L) (hL60 : L ≤ 60) : Ri l D C yX7_count cX7_count 6 .int 2 [.ref (a 0), .int what] (wZ a C Z Y) (f7_count Z N L what) := by
  refine Met.ofW (cc := cX7_count) (maxL := 6) (ret := (some .int)) (by decide) rfl ?_
  intro p e s m args below meth c s₁ B hml hv
  obtain ⟨rfl, hP, hK, hNw⟩ := hv
  have hx := B.exec
  have hb := B.bytes
  have hr := B.returns
  have hts := atoms_spec (ws := wm yX7_count cX7_count 6 (some .int)) B.pre
  have hown : s.vm.findClass RX7 = some m.cls := findClass_of_methodNamed B.named
  have hlocks := B.notSynchronized
  have hW : ∀ w ∈ WA, w.before _ s = true := fun w h => hts w (List.mem_cons_of_mem _ h)
  have hP : va_P D vwCl [((a 0), .inr (7, [.int (Z 12 0), .ref (a 1), .ref (a 2), .ref (a 3), .ref (a 4), .int (Z 12 1), .ref (a 5), .ref (a 6), .ref (a 7), .ref (a 8), .ref (a 9), .int (Z 12 2), .ref (a 10), .int (Z 12 3), .int (Z 12 4), .ref (a 11), .ref (a 12), .long (Y 5 0), .ref (a 13), .ref (a 14), .ref (a 15), .ref (a 16), .ref (a 17)])), ((a 1), eI C 48 (Z 0)), ((a 2), eI C 24 (Z 1)), ((a 3), eZ C 12 (Z 2)), ((a 4), eZ C 12 (Z 3)), ((a 5), eI C 60 (Z 4)), ((a 6), eI C 60 (Z 5)), ((a 7), eI C 60 (Z 6)), ((a 8), eZ C 60 (Z 7)), ((a 9), eZ C 244 (Z 8)), ((a 10), eI C 24 (Z 9)), ((a 11), eJ C 9 (Y 0)), ((a 12), eJ C 9 (Y 1)), ((a 13), eJ C 3 (Y 2)), ((a 14), eJ C 3 (Y 3)), ((a 15), eJ C 12 (Y 4)), ((a 16), eI C 6 (Z 10)), ((a 17), eI C 4 (Z 11))] s.heap := hP
  have hl := lv_entry ([.ref (a 0), .int what]) (n := 6) (Nat.le_of_ble_eq_true rfl)
  rw [lg_entry_eq]
  generalize (lg_sl ([.ref (a 0), .int what]) ++ List.replicate (6 - (lg_sl ([.ref (a 0), .int what])).length) Slot.unset).toArray = ls at hl ⊢
  have hl : lv_has ls 6 [(0, .ref (a 0)), (1, .int what)] := hl
  refine lv_iconst (v := 0) hx hb dX7_count_0 (by decide) ?_
  refine lv_istore_n (lv' := [(2, .int 0), (0, .ref (a 0)), (1, .int what)]) hx hb dX7_count_1 rfl hl (by decide) rfl (fun ls hl => ?_)
  refine lv_iconst (v := 0) hx hb dX7_count_2 (by decide) ?_
  refine lv_istore_n (lv' := [(3, .int 0), (2, .int 0), (0, .ref (a 0)), (1, .int what)]) hx hb dX7_count_3 rfl hl (by decide) rfl (fun ls hl => ?_)
  refine lv_iconst (v := 0) hx hb dX7_count_4 (by decide) ?_
  refine lv_istore (lv' := [(4, .int 0), (3, .int 0), (2, .int 0), (0, .ref (a 0)), (1, .int what)]) hx hb dX7_count_5 hl (by decide) rfl (fun ls hl => ?_)
  refine lv_iconst (v := 0) hx hb dX7_count_7 (by decide) ?_
  refine lv_istore (lv' := [(5, .int 0), (4, .int 0), (3, .int 0), (2, .int 0), (0, .ref (a 0)), (1, .int what)]) hx hb dX7_count_8 hl (by decide) rfl (fun ls hl => ?_)
  obtain ⟨n10, k, x, y, hinv⟩ : ∃ (n10 : Nat) (k : Nat) (x : Int32) (y : Int32), (k + n10 = N) ∧ (cbL (Z 2) n10 k x = cbL (Z 2) N 0 0) ∧ (cbL (Z 3) n10 k y = cbL (Z 3) N 0 0) ∧ lv_has ls 6 [(0, .ref (a 0)), (1, .int what), (2, .int x), (3, .int y), (4, .int 0), (5, .int (nI k))] := ⟨N, 0, 0, 0, by omega, rfl, rfl, lv_sub hl [4, 5, 3, 2, 1, 0] rfl⟩
  clear hl
  induction n10 generalizing k x y ls with
  | zero =>
    obtain ⟨h10_0, h10_1, h10_2, hl⟩ := hinv
    refine lv_iload hx hb dX7_count_10 (lv_at hl 5 rfl) ?_
    refine lv_aload_n hx hb dX7_count_12 rfl (lv_at hl 0 rfl) ?_
    refine va_get (D := D) (ci := 7) (C := RX7) (T := TX7) (N := 23) hx hb hW inX7 hown hK hP 0 rfl rfl 0 (by decide) (hW _ (wa tw550 rfl)) (fun _ h9 => h9) rfl dX7_count_13 ?_
    refine lv_icmp_ge (tgt := 61) hx hb dX7_count_16 (by decide) (fun c_1 => ?_) (fun c_1 => ?_)
    · have e_x : x = cbL (Z 2) N 0 0 := h10_1
      subst e_x
      have e_y : y = cbL (Z 3) N 0 0 := h10_2
      subst e_y
      refine lv_iconst (v := 0) hx hb dX7_count_61 (by decide) ?_
      refine lv_istore (lv' := [(5, .int 0), (0, .ref (a 0)), (1, .int what), (2, .int (cbL (Z 2) N 0 0)), (3, .int (cbL (Z 3) N 0 0)), (4, .int 0)]) hx hb dX7_count_62 hl (by decide) rfl (fun ls hl => ?_)
      obtain ⟨n64, k, u, hinv⟩ : ∃ (n64 : Nat) (k : Nat) (u : Int32), (k + n64 = L) ∧ (cbL (Z 7) n64 k u = cbL (Z 7) L 0 0) ∧ lv_has ls 6 [(0, .ref (a 0)), (1, .int what), (2, .int (cbL (Z 2) N 0 0)), (3, .int (cbL (Z 3) N 0 0)), (4, .int u), (5, .int (nI k))] := ⟨L, 0, 0, by omega, rfl, lv_sub hl [1, 2, 3, 4, 5, 0] rfl⟩
      clear hl
      induction n64 generalizing k u ls with
      | zero =>
        obtain ⟨h64_0, h64_1, hl⟩ := hinv
        refine lv_iload hx hb dX7_count_64 (lv_at hl 5 rfl) ?_
        refine lv_aload_n hx hb dX7_count_66 rfl (lv_at hl 0 rfl) ?_
        refine va_get (D := D) (ci := 7) (C := RX7) (T := TX7) (N := 23) hx hb hW inX7 hown hK hP 0 rfl rfl 5 (by decide) (hW _ (wa tw555 rfl)) (fun _ h9 => h9) rfl dX7_count_67 ?_
        refine lv_icmp_ge (tgt := 99) hx hb dX7_count_70 (by decide) (fun c_2 => ?_) (fun c_2 => ?_)
        · have e_u : u = cbL (Z 7) L 0 0 := h64_1
          subst e_u
          refine lv_iload_n hx hb dX7_count_99 rfl (lv_at hl 1 rfl) ?_
          by_cases c_3 : what = 0
          · refine lv_tableIn (off := 44) (tgt := 144) hx hb dX7_count_100 (by rw [c_3]; decide) (by rw [c_3]; decide) (by rw [c_3]; decide) (by decide) ?_
            refine lv_aload_n hx hb dX7_count_144 rfl (lv_at hl 0 rfl) ?_
            refine va_get (D := D) (ci := 7) (C := RX7) (T := TX7) (N := 23) hx hb hW inX7 hown hK hP 0 rfl rfl 0 (by decide) (hW _ (wa tw550 rfl)) (fun _ h9 => h9) rfl dX7_count_145 ?_
            exact W.iret (v := Z 12 0) hx hb hr (fun t ht _ => ⟨_, rfl, (by simp only [f7_count, if_pos c_3]), ht⟩) (fun q h => by cases h) dX7_count_148
          · skip
            by_cases c_4 : what = 1
            · refine lv_tableIn (off := 49) (tgt := 149) hx hb dX7_count_100 (by rw [c_4]; decide) (by rw [c_4]; decide) (by rw [c_4]; decide) (by decide) ?_
              refine lv_iload_n hx hb dX7_count_149 rfl (lv_at hl 2 rfl) ?_
              exact W.iret (v := cbL (Z 2) N 0 0) hx hb hr (fun t ht _ => ⟨_, rfl, (by simp only [f7_count, if_neg c_3, if_pos c_4]), ht⟩) (fun q h => by cases h) dX7_count_150
            · skip
              by_cases c_5 : what = 2
              · refine lv_tableIn (off := 51) (tgt := 151) hx hb dX7_count_100 (by rw [c_5]; decide) (by rw [c_5]; decide) (by rw [c_5]; decide) (by decide) ?_
                refine lv_iload_n hx hb dX7_count_151 rfl (lv_at hl 3 rfl) ?_
                exact W.iret (v := cbL (Z 3) N 0 0) hx hb hr (fun t ht _ => ⟨_, rfl, (by simp only [f7_count, if_neg c_3, if_neg c_4, if_pos c_5]), ht⟩) (fun q h => by cases h) dX7_count_152
              · skip
                by_cases c_6 : what = 3
                · refine lv_tableIn (off := 53) (tgt := 153) hx hb dX7_count_100 (by rw [c_6]; decide) (by rw [c_6]; decide) (by rw [c_6]; decide) (by decide) ?_
                  refine lv_aload_n hx hb dX7_count_153 rfl (lv_at hl 0 rfl) ?_
                  refine xri (r := f7_counting Z N) (rV (As := []) (n := 0) (rest := []) ⟨hx, hb, hml, hown, hW⟩ (kX7_counting l D C a Z Y  N hN hN12) (wa tw660 rfl) (wa tw657 rfl) (wa tw659 rfl) (was ts38 rfl) (wa tw8 rfl) (by decide +kernel) ⟨Nat.le_of_ble_eq_true rfl, Nat.le_of_ble_eq_true rfl⟩ (pVr hP hK hNw 0 rfl rfl) hl.1 rfl (Nat.le_of_ble_eq_true rfl) dX7_count_154 ⟨Nat.le_of_ble_eq_true rfl, Nat.le_of_ble_eq_true rfl⟩ rfl rfl rfl) ?_
                  refine xri (r := f7_bits (f7_counting Z N)) (rS (As := [.int (f7_counting Z N)]) (n := 1) (rest := []) ⟨hx, hb, hml, hown, hW⟩ (kX7_bits l (f7_counting Z N)) (wa tw667 rfl) (wa tw665 rfl) (wa tw666 rfl) (wa tw8 rfl) (by decide +kernel) ⟨Nat.le_of_ble_eq_true rfl, Nat.le_of_ble_eq_true rfl⟩ pS0 hl.1 rfl (Nat.le_of_ble_eq_true rfl) dX7_count_157 ⟨Nat.le_of_ble_eq_true rfl, Nat.le_of_ble_eq_true rfl⟩ rfl rfl rfl) ?_
                  exact W.iret (v := f7_bits (f7_counting Z N)) hx hb hr (fun t ht _ => ⟨_, rfl, (by simp only [f7_count, if_neg c_3, if_neg c_4, if_neg c_5, if_pos c_6]), ht⟩) (fun q h => by cases h) dX7_count_160
                · skip
                  by_cases c_7 : what = 4
                  · refine lv_tableIn (off := 61) (tgt := 161) hx hb dX7_count_100 (by rw [c_7]; decide) (by rw [c_7]; decide) (by rw [c_7]; decide) (by decide) ?_
                    refine lv_aload_n hx hb dX7_count_161 rfl (lv_at hl 0 rfl) ?_
                    refine va_get (D := D) (ci := 7) (C := RX7) (T := TX7) (N := 23) hx hb hW inX7 hown hK hP 0 rfl rfl 5 (by decide) (hW _ (wa tw555 rfl)) (fun _ h9 => h9) rfl dX7_count_162 ?_
                    exact W.iret (v := Z 12 1) hx hb hr (fun t ht _ => ⟨_, rfl, (by simp only [f7_count, if_neg c_3, if_neg c_4, if_neg c_5, if_neg c_6, if_pos c_7]), ht⟩) (fun q h => by cases h) dX7_count_165
                  · skip
                    by_cases c_8 : what = 5
                    · refine lv_tableIn (off := 66) (tgt := 166) hx hb dX7_count_100 (by rw [c_8]; decide) (by rw [c_8]; decide) (by rw [c_8]; decide) (by decide) ?_
                      refine lv_iload hx hb dX7_count_166 (lv_at hl 4 rfl) ?_
                      exact W.iret (v := (cbL (Z 7) L 0 0)) hx hb hr (fun t ht _ => ⟨_, rfl, (by simp only [f7_count, if_neg c_3, if_neg c_4, if_neg c_5, if_neg c_6, if_neg c_7, if_pos c_8]), ht⟩) (fun q h => by cases h) dX7_count_168
                    · skip
                      by_cases c_9 : what = 6
                      · refine lv_tableIn (off := 69) (tgt := 169) hx hb dX7_count_100 (by rw [c_9]; decide) (by rw [c_9]; decide) (by rw [c_9]; decide) (by decide) ?_
                        refine lv_aload_n hx hb dX7_count_169 rfl (lv_at hl 0 rfl) ?_
                        refine lv_aload_n hx hb dX7_count_170 rfl (lv_at hl 0 rfl) ?_
                        refine xri (r := f7_counting Z N) (rV (As := []) (n := 0) (rest := [.ref (a 0)]) ⟨hx, hb, hml, hown, hW⟩ (kX7_counting l D C a Z Y  N hN hN12) (wa tw660 rfl) (wa tw657 rfl) (wa tw659 rfl) (was ts38 rfl) (wa tw8 rfl) (by decide +kernel) ⟨Nat.le_of_ble_eq_true rfl, Nat.le_of_ble_eq_true rfl⟩ (pVr hP hK hNw 0 rfl rfl) hl.1 rfl (Nat.le_of_ble_eq_true rfl) dX7_count_171 ⟨Nat.le_of_ble_eq_true rfl, Nat.le_of_ble_eq_true rfl⟩ rfl rfl rfl) ?_
                        refine xri (r := f7_fieldsOf (Z 0) N (f7_counting Z N)) (rV (As := [.int (f7_counting Z N)]) (n := 1) (rest := []) ⟨hx, hb, hml, hown, hW⟩ (kX7_fieldsOf l D C a Z Y (f7_counting Z N) N hN hN12) (wa tw671 rfl) (wa tw668 rfl) (wa tw670 rfl) (was ts40 rfl) (wa tw8 rfl) (by decide +kernel) ⟨Nat.le_of_ble_eq_true rfl, Nat.le_of_ble_eq_true rfl⟩ (pVr hP hK hNw 0 rfl rfl) hl.1 rfl (Nat.le_of_ble_eq_true rfl) dX7_count_174 ⟨Nat.le_of_ble_eq_true rfl, Nat.le_of_ble_eq_true rfl⟩ rfl rfl rfl) ?_
                        exact W.iret (v := f7_fieldsOf (Z 0) N (f7_counting Z N)) hx hb hr (fun t ht _ => ⟨_, rfl, (by simp only [f7_count, if_neg c_3, if_neg c_4, if_neg c_5, if_neg c_6, if_neg c_7, if_neg c_8, if_pos c_9]), ht⟩) (fun q h => by cases h) dX7_count_177
                      · skip
                        have hsw := q_sw (x := what) 7 (fun k hk => match k, hk with | 0, _ => c_3 | 1, _ => c_4 | 2, _ => c_5 | 3, _ => c_6 | 4, _ => c_7 | 5, _ => c_8 | 6, _ => c_9 | k + 7, h => absurd h (by omega))
                        refine lv_tableOut (tgt := 178) hx hb dX7_count_100 (by omega) (by decide) ?_
                        refine lv_ldc hx hb hown (hW _ (wa tw631 rfl)) dX7_count_178 ?_
                        exact W.iret (v := (-100002)) hx hb hr (fun t ht _ => ⟨_, rfl, (by simp only [f7_count, if_neg c_3, if_neg c_4, if_neg c_5, if_neg c_6, if_neg c_7, if_neg c_8, if_neg c_9]), ht⟩) (fun q h => by cases h) dX7_count_180
        · exact absurd (q_le hL rfl (by omega) (by omega)) c_2
      | succ n64 ih64 =>
        obtain ⟨h64_0, h64_1, hl⟩ := hinv
        refine lv_iload hx hb dX7_count_64 (lv_at hl 5 rfl) ?_
        refine lv_aload_n hx hb dX7_count_66 rfl (lv_at hl 0 rfl) ?_
        refine va_get (D := D) (ci := 7) (C := RX7) (T := TX7) (N := 23) hx hb hW inX7 hown hK hP 0 rfl rfl 5 (by decide) (hW _ (wa tw555 rfl)) (fun _ h9 => h9) rfl dX7_count_67 ?_
        refine lv_icmp_ge (tgt := 99) hx hb dX7_count_70 (by decide) (fun c_10 => ?_) (fun c_10 => ?_)
        · exact absurd c_10 (q_nle hL rfl (by omega) (by omega))
        · refine lv_iload hx hb dX7_count_73 (lv_at hl 4 rfl) ?_
          refine lv_aload_n hx hb dX7_count_75 rfl (lv_at hl 0 rfl) ?_
          refine va_get (D := D) (ci := 7) (C := RX7) (T := TX7) (N := 23) hx hb hW inX7 hown hK hP 0 rfl rfl 9 (by decide) (hW _ (wa tw559 rfl)) (fun _ h9 => h9) rfl dX7_count_76 ?_
          refine lv_iload hx hb dX7_count_79 (lv_at hl 5 rfl) ?_
          refine xzald hx hb hK hP 8 rfl k rfl (by omega) (by decide) dX7_count_81 ?_
          refine lv_if_eq (tgt := 89) hx hb dX7_count_82 (by decide) (fun c_11 => ?_) (fun c_11 => ?_)
          · refine lv_iconst (v := 0) hx hb dX7_count_89 (by decide) ?_
            refine lv_iadd hx hb dX7_count_90 ?_
            refine lv_istore (lv' := [(4, .int (u + 0)), (0, .ref (a 0)), (1, .int what), (2, .int (cbL (Z 2) N 0 0)), (3, .int (cbL (Z 3) N 0 0)), (5, .int (nI k))]) hx hb dX7_count_91 hl (by decide) rfl (fun ls hl => ?_)
            refine lv_iinc (v := nI k + 1) (lv' := [(5, .int (nI k + 1)), (4, .int (u + 0)), (0, .ref (a 0)), (1, .int what), (2, .int (cbL (Z 2) N 0 0)), (3, .int (cbL (Z 3) N 0 0))]) hx hb dX7_count_93 hl (k := 5) rfl rfl (by decide) rfl (fun ls hl => ?_)
            refine lv_goto (tgt := 64) hx hb dX7_count_96 (by decide) ?_
            rw [nI_1] at hl
            exact ih64 (k := k + 1) (u := (u + 0)) (ls := ls) ⟨by omega, by rw [← h64_1, cbL, if_pos c_11], lv_sub hl [2, 3, 4, 5, 1, 0] rfl⟩
          · refine lv_iconst (v := 1) hx hb dX7_count_85 (by decide) ?_
            refine lv_goto (tgt := 90) hx hb dX7_count_86 (by decide) ?_
            refine lv_iadd hx hb dX7_count_90 ?_
            refine lv_istore (lv' := [(4, .int (u + 1)), (0, .ref (a 0)), (1, .int what), (2, .int (cbL (Z 2) N 0 0)), (3, .int (cbL (Z 3) N 0 0)), (5, .int (nI k))]) hx hb dX7_count_91 hl (by decide) rfl (fun ls hl => ?_)
            refine lv_iinc (v := nI k + 1) (lv' := [(5, .int (nI k + 1)), (4, .int (u + 1)), (0, .ref (a 0)), (1, .int what), (2, .int (cbL (Z 2) N 0 0)), (3, .int (cbL (Z 3) N 0 0))]) hx hb dX7_count_93 hl (k := 5) rfl rfl (by decide) rfl (fun ls hl => ?_)
            refine lv_goto (tgt := 64) hx hb dX7_count_96 (by decide) ?_
            rw [nI_1] at hl
            exact ih64 (k := k + 1) (u := (u + 1)) (ls := ls) ⟨by omega, by rw [← h64_1, cbL, if_neg c_11], lv_sub hl [2, 3, 4, 5, 1, 0] rfl⟩
    · exact absurd (q_le hN rfl (by omega) (by omega)) c_1
  | succ n10 ih10 =>
    obtain ⟨h10_0, h10_1, h10_2, hl⟩ := hinv
    refine lv_iload hx hb dX7_count_10 (lv_at hl 5 rfl) ?_
    refine lv_aload_n hx hb dX7_count_12 rfl (lv_at hl 0 rfl) ?_
    refine va_get (D := D) (ci := 7) (C := RX7) (T := TX7) (N := 23) hx hb hW inX7 hown hK hP 0 rfl rfl 0 (by decide) (hW _ (wa tw550 rfl)) (fun _ h9 => h9) rfl dX7_count_13 ?_
    refine lv_icmp_ge (tgt := 61) hx hb dX7_count_16 (by decide) (fun c_12 => ?_) (fun c_12 => ?_)
    · exact absurd c_12 (q_nle hN rfl (by omega) (by omega))
    · refine lv_iload_n hx hb dX7_count_19 rfl (lv_at hl 2 rfl) ?_
      refine lv_aload_n hx hb dX7_count_20 rfl (lv_at hl 0 rfl) ?_
      refine va_get (D := D) (ci := 7) (C := RX7) (T := TX7) (N := 23) hx hb hW inX7 hown hK hP 0 rfl rfl 3 (by decide) (hW _ (wa tw553 rfl)) (fun _ h9 => h9) rfl dX7_count_21 ?_
      refine lv_iload hx hb dX7_count_24 (lv_at hl 5 rfl) ?_
      refine xzald hx hb hK hP 3 rfl k rfl (by omega) (by decide) dX7_count_26 ?_
      refine lv_if_eq (tgt := 34) hx hb dX7_count_27 (by decide) (fun c_13 => ?_) (fun c_13 => ?_)
      · refine lv_iconst (v := 0) hx hb dX7_count_34 (by decide) ?_
        refine lv_iadd hx hb dX7_count_35 ?_
        refine lv_istore_n (lv' := [(2, .int (x + 0)), (0, .ref (a 0)), (1, .int what), (3, .int y), (4, .int 0), (5, .int (nI k))]) hx hb dX7_count_36 rfl hl (by decide) rfl (fun ls hl => ?_)
        refine lv_iload_n hx hb dX7_count_37 rfl (lv_at hl 3 rfl) ?_
        refine lv_aload_n hx hb dX7_count_38 rfl (lv_at hl 1 rfl) ?_
        refine va_get (D := D) (ci := 7) (C := RX7) (T := TX7) (N := 23) hx hb hW inX7 hown hK hP 0 rfl rfl 4 (by decide) (hW _ (wa tw554 rfl)) (fun _ h9 => h9) rfl dX7_count_39 ?_
        refine lv_iload hx hb dX7_count_42 (lv_at hl 5 rfl) ?_
        refine xzald hx hb hK hP 4 rfl k rfl (by omega) (by decide) dX7_count_44 ?_
        refine lv_if_eq (tgt := 52) hx hb dX7_count_45 (by decide) (fun c_14 => ?_) (fun c_14 => ?_)
        · refine lv_iconst (v := 0) hx hb dX7_count_52 (by decide) ?_
          refine lv_iadd hx hb dX7_count_53 ?_
          refine lv_istore_n (lv' := [(3, .int (y + 0)), (2, .int (x + 0)), (0, .ref (a 0)), (1, .int what), (4, .int 0), (5, .int (nI k))]) hx hb dX7_count_54 rfl hl (by decide) rfl (fun ls hl => ?_)
          refine lv_iinc (v := nI k + 1) (lv' := [(5, .int (nI k + 1)), (3, .int (y + 0)), (2, .int (x + 0)), (0, .ref (a 0)), (1, .int what), (4, .int 0)]) hx hb dX7_count_55 hl (k := 5) rfl rfl (by decide) rfl (fun ls hl => ?_)
          refine lv_goto (tgt := 10) hx hb dX7_count_58 (by decide) ?_
          rw [nI_1] at hl
          exact ih10 (k := k + 1) (x := (x + 0)) (y := (y + 0)) (ls := ls) ⟨by omega, by rw [← h10_1, cbL, if_pos c_13], by rw [← h10_2, cbL, if_pos c_14], lv_sub hl [3, 4, 2, 1, 5, 0] rfl⟩
        · refine lv_iconst (v := 1) hx hb dX7_count_48 (by decide) ?_
          refine lv_goto (tgt := 53) hx hb dX7_count_49 (by decide) ?_
          refine lv_iadd hx hb dX7_count_53 ?_
          refine lv_istore_n (lv' := [(3, .int (y + 1)), (2, .int (x + 0)), (0, .ref (a 0)), (1, .int what), (4, .int 0), (5, .int (nI k))]) hx hb dX7_count_54 rfl hl (by decide) rfl (fun ls hl => ?_)
          refine lv_iinc (v := nI k + 1) (lv' := [(5, .int (nI k + 1)), (3, .int (y + 1)), (2, .int (x + 0)), (0, .ref (a 0)), (1, .int what), (4, .int 0)]) hx hb dX7_count_55 hl (k := 5) rfl rfl (by decide) rfl (fun ls hl => ?_)
          refine lv_goto (tgt := 10) hx hb dX7_count_58 (by decide) ?_
          rw [nI_1] at hl
          exact ih10 (k := k + 1) (x := (x + 0)) (y := (y + 1)) (ls := ls) ⟨by omega, by rw [← h10_1, cbL, if_pos c_13], by rw [← h10_2, cbL, if_neg c_14], lv_sub hl [3, 4, 2, 1, 5, 0] rfl⟩
      · refine lv_iconst (v := 1) hx hb dX7_count_30 (by decide) ?_
        refine lv_goto (tgt := 35) hx hb dX7_count_31 (by decide) ?_
        refine lv_iadd hx hb dX7_count_35 ?_
        refine lv_istore_n (lv' := [(2, .int (x + 1)), (0, .ref (a 0)), (1, .int what), (3, .int y), (4, .int 0), (5, .int (nI k))]) hx hb dX7_count_36 rfl hl (by decide) rfl (fun ls hl => ?_)
        refine lv_iload_n hx hb dX7_count_37 rfl (lv_at hl 3 rfl) ?_
        refine lv_aload_n hx hb dX7_count_38 rfl (lv_at hl 1 rfl) ?_
        refine va_get (D := D) (ci := 7) (C := RX7) (T := TX7) (N := 23) hx hb hW inX7 hown hK hP 0 rfl rfl 4 (by decide) (hW _ (wa tw554 rfl)) (fun _ h9 => h9) rfl dX7_count_39 ?_
        refine lv_iload hx hb dX7_count_42 (lv_at hl 5 rfl) ?_
        refine xzald hx hb hK hP 4 rfl k rfl (by omega) (by decide) dX7_count_44 ?_
        refine lv_if_eq (tgt := 52) hx hb dX7_count_45 (by decide) (fun c_15 => ?_) (fun c_15 => ?_)
        · refine lv_iconst (v := 0) hx hb dX7_count_52 (by decide) ?_
          refine lv_iadd hx hb dX7_count_53 ?_
          refine lv_istore_n (lv' := [(3, .int (y + 0)), (2, .int (x + 1)), (0, .ref (a 0)), (1, .int what), (4, .int 0), (5, .int (nI k))]) hx hb dX7_count_54 rfl hl (by decide) rfl (fun ls hl => ?_)
          refine lv_iinc (v := nI k + 1) (lv' := [(5, .int (nI k + 1)), (3, .int (y + 0)), (2, .int (x + 1)), (0, .ref (a 0)), (1, .int what), (4, .int 0)]) hx hb dX7_count_55 hl (k := 5) rfl rfl (by decide) rfl (fun ls hl => ?_)
          refine lv_goto (tgt := 10) hx hb dX7_count_58 (by decide) ?_
          rw [nI_1] at hl
          exact ih10 (k := k + 1) (x := (x + 1)) (y := (y + 0)) (ls := ls) ⟨by omega, by rw [← h10_1, cbL, if_neg c_13], by rw [← h10_2, cbL, if_pos c_15], lv_sub hl [3, 4, 2, 1, 5, 0] rfl⟩
        · refine lv_iconst (v := 1) hx hb dX7_count_48 (by decide) ?_
          refine lv_goto (tgt := 53) hx hb dX7_count_49 (by decide) ?_
          refine lv_iadd hx hb dX7_count_53 ?_
          refine lv_istore_n (lv' := [(3, .int (y + 1)), (2, .int (x + 1)), (0, .ref (a 0)), (1, .int what), (4, .int 0), (5, .int (nI k))]) hx hb dX7_count_54 rfl hl (by decide) rfl (fun ls hl => ?_)
          refine lv_iinc (v := nI k + 1) (lv' := [(5, .int (nI k + 1)), (3, .int (y + 1)), (2, .int (x + 1)), (0, .ref (a 0)), (1, .int what), (4, .int 0)]) hx hb dX7_count_55 hl (k := 5) rfl rfl (by decide) rfl (fun ls hl => ?_)
          refine lv_goto (tgt := 10) hx hb dX7_count_58 (by decide) ?_
          rw [nI_1] at hl
          exact ih10 (k := k + 1) (x := (x + 1)) (y := (y + 1)) (ls := ls) ⟨by omega, by rw [← h10_1, cbL, if_neg c_13], by rw [← h10_2, cbL, if_neg c_15], lv_sub hl [3, 4, 2, 1, 5, 0] rfl⟩

def f7_det (Z : Nat → Nat → Int32) (Y : Nat → Nat → Int64) (N : Nat) (model : Int32) : Int64 := (if (f7_isModel model) = 0 then ((-100002)) else ((f7_lay (Z 0) Y model (f7_counting Z N) (ntOf model) N) 5 0))
def f7_det_Y (Z : Nat → Nat → Int32) (Y : Nat → Nat → Int64) (N : Nat) (model : Int32) : Nat → Nat → Int64 := (if (f7_isModel model) = 0 then (Y) else (f7_lay (Z 0) Y model (f7_counting Z N) (ntOf model) N))
set_option maxHeartbeats 4000000 in
set_option maxRecDepth 100000 in
theorem kX7_det (l : Launch) (D : va_G) (C : Nat → ClassId) (a : Nat → Nat) (Z : Nat → Nat → Int32) (Y : Nat → Nat → Int64) (model : Int32) (sz : Nat) (N : Nat) (hN : Z 12 0 = nI N) (hN12 : N ≤ 12) : Wl l D C yX7_det cX7_det 2 3 [.ref (a 0), .int model] (wZ a C Z Y) ((wZ a C Z (f7_det_Y Z Y N model))) (f7_det Z Y N model) sz := by
  refine Met.ofW (cc := cX7_det) (maxL := 2) (ret := (some .long)) (by decide) rfl ?_
  intro p e s m args below meth c s₁ B hml hv
  obtain ⟨rfl, hsz, hP, hK, hNw, hD0⟩ := hv
  have hx := B.exec
  have hb := B.bytes
  have hr := B.returns
  have hts := atoms_spec (ws := wm yX7_det cX7_det 2 (some .long)) B.pre
  have hown : s.vm.findClass RX7 = some m.cls := findClass_of_methodNamed B.named
  have hlocks := B.notSynchronized
  have hW : ∀ w ∈ WA, w.before _ s = true := fun w h => hts w (List.mem_cons_of_mem _ h)
  subst hsz
  have hD := hD0.self (sz := s.heap.size)
  generalize hAe : va_A (wZ a C Z Y) s.heap.size = A at hD ⊢
  have hA : ∀ q : Nat, s.heap.size ≤ q → A q := fun q h => by rw [← hAe]; exact Or.inr h
  have hS : va_S A s.heap s.heap [] := va_S.rf
  have hP : va_P D vwCl [((a 0), .inr (7, [.int (Z 12 0), .ref (a 1), .ref (a 2), .ref (a 3), .ref (a 4), .int (Z 12 1), .ref (a 5), .ref (a 6), .ref (a 7), .ref (a 8), .ref (a 9), .int (Z 12 2), .ref (a 10), .int (Z 12 3), .int (Z 12 4), .ref (a 11), .ref (a 12), .long (Y 5 0), .ref (a 13), .ref (a 14), .ref (a 15), .ref (a 16), .ref (a 17)])), ((a 1), eI C 48 (Z 0)), ((a 2), eI C 24 (Z 1)), ((a 3), eZ C 12 (Z 2)), ((a 4), eZ C 12 (Z 3)), ((a 5), eI C 60 (Z 4)), ((a 6), eI C 60 (Z 5)), ((a 7), eI C 60 (Z 6)), ((a 8), eZ C 60 (Z 7)), ((a 9), eZ C 244 (Z 8)), ((a 10), eI C 24 (Z 9)), ((a 11), eJ C 9 (Y 0)), ((a 12), eJ C 9 (Y 1)), ((a 13), eJ C 3 (Y 2)), ((a 14), eJ C 3 (Y 3)), ((a 15), eJ C 12 (Y 4)), ((a 16), eI C 6 (Z 10)), ((a 17), eI C 4 (Z 11))] s.heap := hP
  have hD : va_D A [((a 0), .inr (7, [.int (Z 12 0), .ref (a 1), .ref (a 2), .ref (a 3), .ref (a 4), .int (Z 12 1), .ref (a 5), .ref (a 6), .ref (a 7), .ref (a 8), .ref (a 9), .int (Z 12 2), .ref (a 10), .int (Z 12 3), .int (Z 12 4), .ref (a 11), .ref (a 12), .long (Y 5 0), .ref (a 13), .ref (a 14), .ref (a 15), .ref (a 16), .ref (a 17)])), ((a 1), eI C 48 (Z 0)), ((a 2), eI C 24 (Z 1)), ((a 3), eZ C 12 (Z 2)), ((a 4), eZ C 12 (Z 3)), ((a 5), eI C 60 (Z 4)), ((a 6), eI C 60 (Z 5)), ((a 7), eI C 60 (Z 6)), ((a 8), eZ C 60 (Z 7)), ((a 9), eZ C 244 (Z 8)), ((a 10), eI C 24 (Z 9)), ((a 11), eJ C 9 (Y 0)), ((a 12), eJ C 9 (Y 1)), ((a 13), eJ C 3 (Y 2)), ((a 14), eJ C 3 (Y 3)), ((a 15), eJ C 12 (Y 4)), ((a 16), eI C 6 (Z 10)), ((a 17), eI C 4 (Z 11))] := hD
  have hl := lv_entry ([.ref (a 0), .int model]) (n := 2) (Nat.le_of_ble_eq_true rfl)
  rw [lg_entry_eq]
  generalize (lg_sl ([.ref (a 0), .int model]) ++ List.replicate (2 - (lg_sl ([.ref (a 0), .int model])).length) Slot.unset).toArray = ls at hl ⊢
  have hl : lv_has ls 2 [(0, .ref (a 0)), (1, .int model)] := hl
  refine lv_iload_n hx hb dX7_det_0 rfl (lv_at hl 1 rfl) ?_
  refine xri (r := f7_isModel model) (rS (As := [.int model]) (n := 1) (rest := []) ⟨hx, hb, hml, hown, hW⟩ (kX7_isModel l model) (wa tw678 rfl) (wa tw676 rfl) (wa tw677 rfl) (wa tw8 rfl) (by decide +kernel) ⟨Nat.le_of_ble_eq_true rfl, Nat.le_of_ble_eq_true rfl⟩ pS0 hl.1 rfl (Nat.le_of_ble_eq_true rfl) dX7_det_1 ⟨Nat.le_of_ble_eq_true rfl, Nat.le_of_ble_eq_true rfl⟩ rfl rfl rfl) ?_
  refine lv_if_ne (tgt := 11) hx hb dX7_det_4 (by decide) (fun c_1 => ?_) (fun c_1 => ?_)
  · refine lv_aload_n hx hb dX7_det_11 rfl (lv_at hl 0 rfl) ?_
    refine lv_iload_n hx hb dX7_det_12 rfl (lv_at hl 1 rfl) ?_
    refine lv_aload_n hx hb dX7_det_13 rfl (lv_at hl 0 rfl) ?_
    refine xri (r := f7_counting Z N) (rV (As := []) (n := 0) (rest := [.int model, .ref (a 0)]) ⟨hx, hb, hml, hown, hW⟩ (kX7_counting l D C a Z Y  N hN hN12) (wa tw660 rfl) (wa tw657 rfl) (wa tw659 rfl) (was ts38 rfl) (wa tw8 rfl) (by decide +kernel) ⟨Nat.le_of_ble_eq_true rfl, Nat.le_of_ble_eq_true rfl⟩ (pVr hP hK hNw 0 rfl rfl) hl.1 rfl (Nat.le_of_ble_eq_true rfl) dX7_det_14 ⟨Nat.le_of_ble_eq_true rfl, Nat.le_of_ble_eq_true rfl⟩ rfl rfl rfl) ?_
    refine xwv (wr := []) (rV (As := [.int model, .int (f7_counting Z N)]) (n := 2) (rest := []) ⟨hx, hb, hml, hown, hW⟩ (kX7_lay l D C a Z Y model (f7_counting Z N) s.heap.size N hN hN12 (ntOf model) (ntOf_eq _) (ntOf_13 _)) (wa tw684 rfl) (wa tw681 rfl) (wa tw683 rfl) (was ts41 rfl) (wa tw8 rfl) (by decide +kernel) ⟨Nat.le_of_ble_eq_true rfl, Nat.le_of_ble_eq_true rfl⟩ (pVw hP hD hK hNw 0 rfl rfl) hl.1 rfl (Nat.le_of_ble_eq_true rfl) dX7_det_17 ⟨Nat.le_of_ble_eq_true rfl, Nat.le_of_ble_eq_true rfl⟩ rfl rfl rfl) hP hD hS hA [0, 1, 2, 3, 4, 5, 6, 7, 8, 9, 10, 11, 12, 13, 14, 15, 16, 17] [] rfl rfl (by decide) (by decide) (fun H locs hP hD hS => ?_)
    have hP : va_P D vwCl [((a 0), .inr (7, [.int (Z 12 0), .ref (a 1), .ref (a 2), .ref (a 3), .ref (a 4), .int (Z 12 1), .ref (a 5), .ref (a 6), .ref (a 7), .ref (a 8), .ref (a 9), .int (Z 12 2), .ref (a 10), .int (Z 12 3), .int (Z 12 4), .ref (a 11), .ref (a 12), .long ((f7_lay (Z 0) Y model (f7_counting Z N) (ntOf model) N) 5 0), .ref (a 13), .ref (a 14), .ref (a 15), .ref (a 16), .ref (a 17)])), ((a 1), eI C 48 (Z 0)), ((a 2), eI C 24 (Z 1)), ((a 3), eZ C 12 (Z 2)), ((a 4), eZ C 12 (Z 3)), ((a 5), eI C 60 (Z 4)), ((a 6), eI C 60 (Z 5)), ((a 7), eI C 60 (Z 6)), ((a 8), eZ C 60 (Z 7)), ((a 9), eZ C 244 (Z 8)), ((a 10), eI C 24 (Z 9)), ((a 11), eJ C 9 ((f7_lay (Z 0) Y model (f7_counting Z N) (ntOf model) N) 0)), ((a 12), eJ C 9 ((f7_lay (Z 0) Y model (f7_counting Z N) (ntOf model) N) 1)), ((a 13), eJ C 3 ((f7_lay (Z 0) Y model (f7_counting Z N) (ntOf model) N) 2)), ((a 14), eJ C 3 ((f7_lay (Z 0) Y model (f7_counting Z N) (ntOf model) N) 3)), ((a 15), eJ C 12 ((f7_lay (Z 0) Y model (f7_counting Z N) (ntOf model) N) 4)), ((a 16), eI C 6 (Z 10)), ((a 17), eI C 4 (Z 11))] H := hP
    have hD : va_D A [((a 0), .inr (7, [.int (Z 12 0), .ref (a 1), .ref (a 2), .ref (a 3), .ref (a 4), .int (Z 12 1), .ref (a 5), .ref (a 6), .ref (a 7), .ref (a 8), .ref (a 9), .int (Z 12 2), .ref (a 10), .int (Z 12 3), .int (Z 12 4), .ref (a 11), .ref (a 12), .long ((f7_lay (Z 0) Y model (f7_counting Z N) (ntOf model) N) 5 0), .ref (a 13), .ref (a 14), .ref (a 15), .ref (a 16), .ref (a 17)])), ((a 1), eI C 48 (Z 0)), ((a 2), eI C 24 (Z 1)), ((a 3), eZ C 12 (Z 2)), ((a 4), eZ C 12 (Z 3)), ((a 5), eI C 60 (Z 4)), ((a 6), eI C 60 (Z 5)), ((a 7), eI C 60 (Z 6)), ((a 8), eZ C 60 (Z 7)), ((a 9), eZ C 244 (Z 8)), ((a 10), eI C 24 (Z 9)), ((a 11), eJ C 9 ((f7_lay (Z 0) Y model (f7_counting Z N) (ntOf model) N) 0)), ((a 12), eJ C 9 ((f7_lay (Z 0) Y model (f7_counting Z N) (ntOf model) N) 1)), ((a 13), eJ C 3 ((f7_lay (Z 0) Y model (f7_counting Z N) (ntOf model) N) 2)), ((a 14), eJ C 3 ((f7_lay (Z 0) Y model (f7_counting Z N) (ntOf model) N) 3)), ((a 15), eJ C 12 ((f7_lay (Z 0) Y model (f7_counting Z N) (ntOf model) N) 4)), ((a 16), eI C 6 (Z 10)), ((a 17), eI C 4 (Z 11))] := hD
    refine lv_aload_n hx hb dX7_det_20 rfl (lv_at hl 0 rfl) ?_
    refine va_get (D := D) (ci := 7) (C := RX7) (T := TX7) (N := 23) hx hb hW inX7 hown hK hP 0 rfl rfl 17 (by decide) (hW _ (wa tw567 rfl)) (fun _ h9 => h9) rfl dX7_det_21 ?_
    have hb_0 : (f7_det_Y Z Y N model) = f7_lay (Z 0) Y model (f7_counting Z N) (ntOf model) N := (by simp only [f7_det, f7_det_Y, if_neg c_1])
    have hP9 : va_P D vwCl ((wZ a C Z (f7_det_Y Z Y N model))) H := by rw [hb_0]; exact hP
    have hD9 : va_D A ((wZ a C Z (f7_det_Y Z Y N model))) := by rw [hb_0]; exact hD
    exact W.lret (v := (f7_lay (Z 0) Y model (f7_counting Z N) (ntOf model) N) 5 0) hx hb hr (fun t ht _ => ⟨⟨_, (), rfl, (by simp only [f7_det, f7_det_Y, if_neg c_1]), ⟨by rw [ht]; exact hP9, by rw [hAe]; exact hD9⟩⟩, hS.F ht⟩) hS.2.2 dX7_det_24
  · refine lv_ldc2 hx hb hown (hW _ (wa tw680 rfl)) dX7_det_7 ?_
    have hb_0 : (f7_det_Y Z Y N model) = Y := (by simp only [f7_det, f7_det_Y, if_pos c_1])
    have hP9 : va_P D vwCl ((wZ a C Z (f7_det_Y Z Y N model))) s.heap := by rw [hb_0]; exact hP
    have hD9 : va_D A ((wZ a C Z (f7_det_Y Z Y N model))) := by rw [hb_0]; exact hD
    exact W.lret (v := (-100002)) hx hb hr (fun t ht _ => ⟨⟨_, (), rfl, (by simp only [f7_det, f7_det_Y, if_pos c_1]), ⟨by rw [ht]; exact hP9, by rw [hAe]; exact hD9⟩⟩, hS.F ht⟩) hS.2.2 dX7_det_10

theorem q_term {model x : Int32} (h : ¬ f7_in x.toInt64 0 (f7_termsOf model - 1).toInt64 = 0) : ∃ k : Nat, k < 3 ∧ x = nI k := by
  obtain ⟨k, hk, e⟩ := q_inC (n := ntOf model) (by rw [ntOf_eq, Int32.toInt_toInt64, q_pred (by rcases ntOf_13 model with h | h <;> rw [h] <;> decide)]) (by rcases ntOf_13 model with h | h <;> rw [h] <;> decide) h
  exact ⟨k, by rcases ntOf_13 model with h | h <;> rw [h] at hk <;> omega, e⟩

def f7_fit (Z : Nat → Nat → Int32) (Y : Nat → Nat → Int64) (N : Nat) (model way t what : Int32) : Int64 := (if (f7_isModel model) = 0 then ((-100002)) else (if (f7_in way.toInt64 0 1) = 0 then ((-100002)) else (if (f7_in t.toInt64 0 (((f7_termsOf model) - 1).toInt64)) = 0 then ((-100002)) else (if (f7_in what.toInt64 0 1) = 0 then ((-100002)) else (if ((f7_findFit (Z 0) (Z 1) Y model (ix way) (f7_counting Z N) (ntOf model) N) 5 0) = 0 then ((-100003)) else (f7_share (((f7_findFit (Z 0) (Z 1) Y model (ix way) (f7_counting Z N) (ntOf model) N) 3) (ix t)) ((f7_findFit (Z 0) (Z 1) Y model (ix way) (f7_counting Z N) (ntOf model) N) 5 0) what))))))
def f7_fit_Y (Z : Nat → Nat → Int32) (Y : Nat → Nat → Int64) (N : Nat) (model way t what : Int32) : Nat → Nat → Int64 := (if (f7_isModel model) = 0 then (Y) else (if (f7_in way.toInt64 0 1) = 0 then (Y) else (if (f7_in t.toInt64 0 (((f7_termsOf model) - 1).toInt64)) = 0 then (Y) else (if (f7_in what.toInt64 0 1) = 0 then (Y) else (f7_findFit (Z 0) (Z 1) Y model (ix way) (f7_counting Z N) (ntOf model) N)))))
set_option maxHeartbeats 4000000 in
set_option maxRecDepth 100000 in
theorem kX7_fit (l : Launch) (D : va_G) (C : Nat → ClassId) (a : Nat → Nat) (Z : Nat → Nat → Int32) (Y : Nat → Nat → Int64) (model way t what : Int32) (sz : Nat) (N : Nat) (hN : Z 12 0 = nI N) (hN12 : N ≤ 12) : Wl l D C yX7_fit cX7_fit 5 4 [.ref (a 0), .int model, .int way, .int t, .int what] (wZ a C Z Y) ((wZ a C Z (f7_fit_Y Z Y N model way t what))) (f7_fit Z Y N model way t what) sz := by
  refine Met.ofW (cc := cX7_fit) (maxL := 5) (ret := (some .long)) (by decide) rfl ?_
  intro p e s m args below meth c s₁ B hml hv
  obtain ⟨rfl, hsz, hP, hK, hNw, hD0⟩ := hv
  have hx := B.exec
  have hb := B.bytes
  have hr := B.returns
  have hts := atoms_spec (ws := wm yX7_fit cX7_fit 5 (some .long)) B.pre
  have hown : s.vm.findClass RX7 = some m.cls := findClass_of_methodNamed B.named
  have hlocks := B.notSynchronized
  have hW : ∀ w ∈ WA, w.before _ s = true := fun w h => hts w (List.mem_cons_of_mem _ h)
  subst hsz
  have hD := hD0.self (sz := s.heap.size)
  generalize hAe : va_A (wZ a C Z Y) s.heap.size = A at hD ⊢
  have hA : ∀ q : Nat, s.heap.size ≤ q → A q := fun q h => by rw [← hAe]; exact Or.inr h
  have hS : va_S A s.heap s.heap [] := va_S.rf
  have hP : va_P D vwCl [((a 0), .inr (7, [.int (Z 12 0), .ref (a 1), .ref (a 2), .ref (a 3), .ref (a 4), .int (Z 12 1), .ref (a 5), .ref (a 6), .ref (a 7), .ref (a 8), .ref (a 9), .int (Z 12 2), .ref (a 10), .int (Z 12 3), .int (Z 12 4), .ref (a 11), .ref (a 12), .long (Y 5 0), .ref (a 13), .ref (a 14), .ref (a 15), .ref (a 16), .ref (a 17)])), ((a 1), eI C 48 (Z 0)), ((a 2), eI C 24 (Z 1)), ((a 3), eZ C 12 (Z 2)), ((a 4), eZ C 12 (Z 3)), ((a 5), eI C 60 (Z 4)), ((a 6), eI C 60 (Z 5)), ((a 7), eI C 60 (Z 6)), ((a 8), eZ C 60 (Z 7)), ((a 9), eZ C 244 (Z 8)), ((a 10), eI C 24 (Z 9)), ((a 11), eJ C 9 (Y 0)), ((a 12), eJ C 9 (Y 1)), ((a 13), eJ C 3 (Y 2)), ((a 14), eJ C 3 (Y 3)), ((a 15), eJ C 12 (Y 4)), ((a 16), eI C 6 (Z 10)), ((a 17), eI C 4 (Z 11))] s.heap := hP
  have hD : va_D A [((a 0), .inr (7, [.int (Z 12 0), .ref (a 1), .ref (a 2), .ref (a 3), .ref (a 4), .int (Z 12 1), .ref (a 5), .ref (a 6), .ref (a 7), .ref (a 8), .ref (a 9), .int (Z 12 2), .ref (a 10), .int (Z 12 3), .int (Z 12 4), .ref (a 11), .ref (a 12), .long (Y 5 0), .ref (a 13), .ref (a 14), .ref (a 15), .ref (a 16), .ref (a 17)])), ((a 1), eI C 48 (Z 0)), ((a 2), eI C 24 (Z 1)), ((a 3), eZ C 12 (Z 2)), ((a 4), eZ C 12 (Z 3)), ((a 5), eI C 60 (Z 4)), ((a 6), eI C 60 (Z 5)), ((a 7), eI C 60 (Z 6)), ((a 8), eZ C 60 (Z 7)), ((a 9), eZ C 244 (Z 8)), ((a 10), eI C 24 (Z 9)), ((a 11), eJ C 9 (Y 0)), ((a 12), eJ C 9 (Y 1)), ((a 13), eJ C 3 (Y 2)), ((a 14), eJ C 3 (Y 3)), ((a 15), eJ C 12 (Y 4)), ((a 16), eI C 6 (Z 10)), ((a 17), eI C 4 (Z 11))] := hD
  have hl := lv_entry ([.ref (a 0), .int model, .int way, .int t, .int what]) (n := 5) (Nat.le_of_ble_eq_true rfl)
  rw [lg_entry_eq]
  generalize (lg_sl ([.ref (a 0), .int model, .int way, .int t, .int what]) ++ List.replicate (5 - (lg_sl ([.ref (a 0), .int model, .int way, .int t, .int what])).length) Slot.unset).toArray = ls at hl ⊢
  have hl : lv_has ls 5 [(0, .ref (a 0)), (1, .int model), (2, .int way), (3, .int t), (4, .int what)] := hl
  refine lv_iload_n hx hb dX7_fit_0 rfl (lv_at hl 1 rfl) ?_
  refine xri (r := f7_isModel model) (rS (As := [.int model]) (n := 1) (rest := []) ⟨hx, hb, hml, hown, hW⟩ (kX7_isModel l model) (wa tw678 rfl) (wa tw676 rfl) (wa tw677 rfl) (wa tw8 rfl) (by decide +kernel) ⟨Nat.le_of_ble_eq_true rfl, Nat.le_of_ble_eq_true rfl⟩ pS0 hl.1 rfl (Nat.le_of_ble_eq_true rfl) dX7_fit_1 ⟨Nat.le_of_ble_eq_true rfl, Nat.le_of_ble_eq_true rfl⟩ rfl rfl rfl) ?_
  refine lv_if_eq (tgt := 44) hx hb dX7_fit_4 (by decide) (fun c_1 => ?_) (fun c_1 => ?_)
  · refine lv_ldc2 hx hb hown (hW _ (wa tw680 rfl)) dX7_fit_44 ?_
    have hb_0 : (f7_fit_Y Z Y N model way t what) = Y := (by simp only [f7_fit, f7_fit_Y, if_pos c_1])
    have hP9 : va_P D vwCl ((wZ a C Z (f7_fit_Y Z Y N model way t what))) s.heap := by rw [hb_0]; exact hP
    have hD9 : va_D A ((wZ a C Z (f7_fit_Y Z Y N model way t what))) := by rw [hb_0]; exact hD
    exact W.lret (v := (-100002)) hx hb hr (fun t ht _ => ⟨⟨_, (), rfl, (by simp only [f7_fit, f7_fit_Y, if_pos c_1]), ⟨by rw [ht]; exact hP9, by rw [hAe]; exact hD9⟩⟩, hS.F ht⟩) hS.2.2 dX7_fit_47
  · refine lv_iload_n hx hb dX7_fit_7 rfl (lv_at hl 2 rfl) ?_
    refine lv_i2l (v := way.toInt64) hx hb dX7_fit_8 rfl ?_
    refine lv_lconst (v := 0) hx hb dX7_fit_9 (by decide) ?_
    refine lv_lconst (v := 1) hx hb dX7_fit_10 (by decide) ?_
    refine xri (r := f7_in way.toInt64 0 1) (rS (As := [.long way.toInt64, .long 0, .long 1]) (n := 3) (rest := []) ⟨hx, hb, hml, hown, hW⟩ (kX7_in l way.toInt64 0 1) (wa tw628 rfl) (wa tw626 rfl) (wa tw627 rfl) (wa tw8 rfl) (by decide +kernel) ⟨Nat.le_of_ble_eq_true rfl, Nat.le_of_ble_eq_true rfl⟩ pS0 hl.1 rfl (Nat.le_of_ble_eq_true rfl) dX7_fit_11 ⟨Nat.le_of_ble_eq_true rfl, Nat.le_of_ble_eq_true rfl⟩ rfl rfl rfl) ?_
    refine lv_if_eq (tgt := 44) hx hb dX7_fit_14 (by decide) (fun c_2 => ?_) (fun c_2 => ?_)
    · refine lv_ldc2 hx hb hown (hW _ (wa tw680 rfl)) dX7_fit_44 ?_
      have hb_0 : (f7_fit_Y Z Y N model way t what) = Y := (by simp only [f7_fit, f7_fit_Y, if_neg c_1, if_pos c_2])
      have hP9 : va_P D vwCl ((wZ a C Z (f7_fit_Y Z Y N model way t what))) s.heap := by rw [hb_0]; exact hP
      have hD9 : va_D A ((wZ a C Z (f7_fit_Y Z Y N model way t what))) := by rw [hb_0]; exact hD
      exact W.lret (v := (-100002)) hx hb hr (fun t ht _ => ⟨⟨_, (), rfl, (by simp only [f7_fit, f7_fit_Y, if_neg c_1, if_pos c_2]), ⟨by rw [ht]; exact hP9, by rw [hAe]; exact hD9⟩⟩, hS.F ht⟩) hS.2.2 dX7_fit_47
    · obtain ⟨w, hw, rfl⟩ := q_inC (n := 2) rfl (by decide) c_2
      have hix_w : ix (nI w) = w := ix_nI (by omega)
      refine lv_iload_n hx hb dX7_fit_17 rfl (lv_at hl 3 rfl) ?_
      refine lv_i2l (v := t.toInt64) hx hb dX7_fit_18 rfl ?_
      refine lv_lconst (v := 0) hx hb dX7_fit_19 (by decide) ?_
      refine lv_iload_n hx hb dX7_fit_20 rfl (lv_at hl 1 rfl) ?_
      refine xri (r := f7_termsOf model) (rS (As := [.int model]) (n := 1) (rest := [.long 0, .long t.toInt64]) ⟨hx, hb, hml, hown, hW⟩ (kX7_termsOf l model) (wa tw687 rfl) (wa tw685 rfl) (wa tw686 rfl) (wa tw8 rfl) (by decide +kernel) ⟨Nat.le_of_ble_eq_true rfl, Nat.le_of_ble_eq_true rfl⟩ pS0 hl.1 rfl (Nat.le_of_ble_eq_true rfl) dX7_fit_21 ⟨Nat.le_of_ble_eq_true rfl, Nat.le_of_ble_eq_true rfl⟩ rfl rfl rfl) ?_
      refine lv_iconst (v := 1) hx hb dX7_fit_24 (by decide) ?_
      refine lv_isub hx hb dX7_fit_25 ?_
      refine lv_i2l (v := ((f7_termsOf model) - 1).toInt64) hx hb dX7_fit_26 rfl ?_
      refine xri (r := f7_in t.toInt64 0 (((f7_termsOf model) - 1).toInt64)) (rS (As := [.long t.toInt64, .long 0, .long (((f7_termsOf model) - 1).toInt64)]) (n := 3) (rest := []) ⟨hx, hb, hml, hown, hW⟩ (kX7_in l t.toInt64 0 (((f7_termsOf model) - 1).toInt64)) (wa tw628 rfl) (wa tw626 rfl) (wa tw627 rfl) (wa tw8 rfl) (by decide +kernel) ⟨Nat.le_of_ble_eq_true rfl, Nat.le_of_ble_eq_true rfl⟩ pS0 hl.1 rfl (Nat.le_of_ble_eq_true rfl) dX7_fit_27 ⟨Nat.le_of_ble_eq_true rfl, Nat.le_of_ble_eq_true rfl⟩ rfl rfl rfl) ?_
      refine lv_if_eq (tgt := 44) hx hb dX7_fit_30 (by decide) (fun c_3 => ?_) (fun c_3 => ?_)
      · refine lv_ldc2 hx hb hown (hW _ (wa tw680 rfl)) dX7_fit_44 ?_
        have hb_0 : (f7_fit_Y Z Y N model (nI w) t what) = Y := (by simp only [f7_fit, f7_fit_Y, if_neg c_1, if_neg c_2, if_pos c_3, hix_w])
        have hP9 : va_P D vwCl ((wZ a C Z (f7_fit_Y Z Y N model (nI w) t what))) s.heap := by rw [hb_0]; exact hP
        have hD9 : va_D A ((wZ a C Z (f7_fit_Y Z Y N model (nI w) t what))) := by rw [hb_0]; exact hD
        exact W.lret (v := (-100002)) hx hb hr (fun t ht _ => ⟨⟨_, (), rfl, (by simp only [f7_fit, f7_fit_Y, if_neg c_1, if_neg c_2, if_pos c_3, hix_w]), ⟨by rw [ht]; exact hP9, by rw [hAe]; exact hD9⟩⟩, hS.F ht⟩) hS.2.2 dX7_fit_47
      · obtain ⟨k, hk, rfl⟩ := q_term c_3
        have hix_k : ix (nI k) = k := ix_nI (by omega)
        refine lv_iload hx hb dX7_fit_33 (lv_at hl 4 rfl) ?_
        refine lv_i2l (v := what.toInt64) hx hb dX7_fit_35 rfl ?_
        refine lv_lconst (v := 0) hx hb dX7_fit_36 (by decide) ?_
        refine lv_lconst (v := 1) hx hb dX7_fit_37 (by decide) ?_
        refine xri (r := f7_in what.toInt64 0 1) (rS (As := [.long what.toInt64, .long 0, .long 1]) (n := 3) (rest := []) ⟨hx, hb, hml, hown, hW⟩ (kX7_in l what.toInt64 0 1) (wa tw628 rfl) (wa tw626 rfl) (wa tw627 rfl) (wa tw8 rfl) (by decide +kernel) ⟨Nat.le_of_ble_eq_true rfl, Nat.le_of_ble_eq_true rfl⟩ pS0 hl.1 rfl (Nat.le_of_ble_eq_true rfl) dX7_fit_38 ⟨Nat.le_of_ble_eq_true rfl, Nat.le_of_ble_eq_true rfl⟩ rfl rfl rfl) ?_
        refine lv_if_ne (tgt := 48) hx hb dX7_fit_41 (by decide) (fun c_4 => ?_) (fun c_4 => ?_)
        · refine lv_aload_n hx hb dX7_fit_48 rfl (lv_at hl 0 rfl) ?_
          refine lv_iload_n hx hb dX7_fit_49 rfl (lv_at hl 1 rfl) ?_
          refine lv_iload_n hx hb dX7_fit_50 rfl (lv_at hl 2 rfl) ?_
          refine lv_aload_n hx hb dX7_fit_51 rfl (lv_at hl 0 rfl) ?_
          refine xri (r := f7_counting Z N) (rV (As := []) (n := 0) (rest := [.int (nI w), .int model, .ref (a 0)]) ⟨hx, hb, hml, hown, hW⟩ (kX7_counting l D C a Z Y  N hN hN12) (wa tw660 rfl) (wa tw657 rfl) (wa tw659 rfl) (was ts38 rfl) (wa tw8 rfl) (by decide +kernel) ⟨Nat.le_of_ble_eq_true rfl, Nat.le_of_ble_eq_true rfl⟩ (pVr hP hK hNw 0 rfl rfl) hl.1 rfl (Nat.le_of_ble_eq_true rfl) dX7_fit_52 ⟨Nat.le_of_ble_eq_true rfl, Nat.le_of_ble_eq_true rfl⟩ rfl rfl rfl) ?_
          refine xwv (wr := []) (rV (As := [.int model, .int (nI w), .int (f7_counting Z N)]) (n := 3) (rest := []) ⟨hx, hb, hml, hown, hW⟩ (kX7_findFit l D C a Z Y model w (f7_counting Z N) s.heap.size N hN hN12 (ntOf model) (ntOf_eq _) (ntOf_13 _) (by omega)) (wa tw703 rfl) (wa tw700 rfl) (wa tw702 rfl) (was ts44 rfl) (wa tw8 rfl) (by decide +kernel) ⟨Nat.le_of_ble_eq_true rfl, Nat.le_of_ble_eq_true rfl⟩ (pVw hP hD hK hNw 0 rfl rfl) hl.1 rfl (Nat.le_of_ble_eq_true rfl) dX7_fit_55 ⟨Nat.le_of_ble_eq_true rfl, Nat.le_of_ble_eq_true rfl⟩ rfl rfl rfl) hP hD hS hA [0, 1, 2, 3, 4, 5, 6, 7, 8, 9, 10, 11, 12, 13, 14, 15, 16, 17] [] rfl rfl (by decide) (by decide) (fun H locs hP hD hS => ?_)
          have hP : va_P D vwCl [((a 0), .inr (7, [.int (Z 12 0), .ref (a 1), .ref (a 2), .ref (a 3), .ref (a 4), .int (Z 12 1), .ref (a 5), .ref (a 6), .ref (a 7), .ref (a 8), .ref (a 9), .int (Z 12 2), .ref (a 10), .int (Z 12 3), .int (Z 12 4), .ref (a 11), .ref (a 12), .long ((f7_findFit (Z 0) (Z 1) Y model w (f7_counting Z N) (ntOf model) N) 5 0), .ref (a 13), .ref (a 14), .ref (a 15), .ref (a 16), .ref (a 17)])), ((a 1), eI C 48 (Z 0)), ((a 2), eI C 24 (Z 1)), ((a 3), eZ C 12 (Z 2)), ((a 4), eZ C 12 (Z 3)), ((a 5), eI C 60 (Z 4)), ((a 6), eI C 60 (Z 5)), ((a 7), eI C 60 (Z 6)), ((a 8), eZ C 60 (Z 7)), ((a 9), eZ C 244 (Z 8)), ((a 10), eI C 24 (Z 9)), ((a 11), eJ C 9 ((f7_findFit (Z 0) (Z 1) Y model w (f7_counting Z N) (ntOf model) N) 0)), ((a 12), eJ C 9 ((f7_findFit (Z 0) (Z 1) Y model w (f7_counting Z N) (ntOf model) N) 1)), ((a 13), eJ C 3 ((f7_findFit (Z 0) (Z 1) Y model w (f7_counting Z N) (ntOf model) N) 2)), ((a 14), eJ C 3 ((f7_findFit (Z 0) (Z 1) Y model w (f7_counting Z N) (ntOf model) N) 3)), ((a 15), eJ C 12 ((f7_findFit (Z 0) (Z 1) Y model w (f7_counting Z N) (ntOf model) N) 4)), ((a 16), eI C 6 (Z 10)), ((a 17), eI C 4 (Z 11))] H := hP
          have hD : va_D A [((a 0), .inr (7, [.int (Z 12 0), .ref (a 1), .ref (a 2), .ref (a 3), .ref (a 4), .int (Z 12 1), .ref (a 5), .ref (a 6), .ref (a 7), .ref (a 8), .ref (a 9), .int (Z 12 2), .ref (a 10), .int (Z 12 3), .int (Z 12 4), .ref (a 11), .ref (a 12), .long ((f7_findFit (Z 0) (Z 1) Y model w (f7_counting Z N) (ntOf model) N) 5 0), .ref (a 13), .ref (a 14), .ref (a 15), .ref (a 16), .ref (a 17)])), ((a 1), eI C 48 (Z 0)), ((a 2), eI C 24 (Z 1)), ((a 3), eZ C 12 (Z 2)), ((a 4), eZ C 12 (Z 3)), ((a 5), eI C 60 (Z 4)), ((a 6), eI C 60 (Z 5)), ((a 7), eI C 60 (Z 6)), ((a 8), eZ C 60 (Z 7)), ((a 9), eZ C 244 (Z 8)), ((a 10), eI C 24 (Z 9)), ((a 11), eJ C 9 ((f7_findFit (Z 0) (Z 1) Y model w (f7_counting Z N) (ntOf model) N) 0)), ((a 12), eJ C 9 ((f7_findFit (Z 0) (Z 1) Y model w (f7_counting Z N) (ntOf model) N) 1)), ((a 13), eJ C 3 ((f7_findFit (Z 0) (Z 1) Y model w (f7_counting Z N) (ntOf model) N) 2)), ((a 14), eJ C 3 ((f7_findFit (Z 0) (Z 1) Y model w (f7_counting Z N) (ntOf model) N) 3)), ((a 15), eJ C 12 ((f7_findFit (Z 0) (Z 1) Y model w (f7_counting Z N) (ntOf model) N) 4)), ((a 16), eI C 6 (Z 10)), ((a 17), eI C 4 (Z 11))] := hD
          refine lv_aload_n hx hb dX7_fit_58 rfl (lv_at hl 0 rfl) ?_
          refine va_get (D := D) (ci := 7) (C := RX7) (T := TX7) (N := 23) hx hb hW inX7 hown hK hP 0 rfl rfl 17 (by decide) (hW _ (wa tw567 rfl)) (fun _ h9 => h9) rfl dX7_fit_59 ?_
          refine lv_lconst (v := 0) hx hb dX7_fit_62 (by decide) ?_
          refine xlcmp_ne (tgt := 73) hx hb dX7_fit_63 dX7_fit_64 (by decide) (fun c_5 => ?_) (fun c_5 => ?_)
          · refine lv_aload_n hx hb dX7_fit_73 rfl (lv_at hl 0 rfl) ?_
            refine va_get (D := D) (ci := 7) (C := RX7) (T := TX7) (N := 23) hx hb hW inX7 hown hK hP 0 rfl rfl 19 (by decide) (hW _ (wa tw569 rfl)) (fun _ h9 => h9) rfl dX7_fit_74 ?_
            refine lv_iload_n hx hb dX7_fit_77 rfl (lv_at hl 3 rfl) ?_
            refine xlald hx hb hK hP 14 rfl k rfl (by omega) (by decide) dX7_fit_78 ?_
            refine lv_aload_n hx hb dX7_fit_79 rfl (lv_at hl 0 rfl) ?_
            refine va_get (D := D) (ci := 7) (C := RX7) (T := TX7) (N := 23) hx hb hW inX7 hown hK hP 0 rfl rfl 17 (by decide) (hW _ (wa tw567 rfl)) (fun _ h9 => h9) rfl dX7_fit_80 ?_
            refine lv_iload hx hb dX7_fit_83 (lv_at hl 4 rfl) ?_
            refine xrl (r := f7_share (((f7_findFit (Z 0) (Z 1) Y model w (f7_counting Z N) (ntOf model) N) 3) k) ((f7_findFit (Z 0) (Z 1) Y model w (f7_counting Z N) (ntOf model) N) 5 0) what) (rS (As := [.long (((f7_findFit (Z 0) (Z 1) Y model w (f7_counting Z N) (ntOf model) N) 3) k), .long ((f7_findFit (Z 0) (Z 1) Y model w (f7_counting Z N) (ntOf model) N) 5 0), .int what]) (n := 3) (rest := []) ⟨hx, hb, hml, hown, hW⟩ (kX7_share l (((f7_findFit (Z 0) (Z 1) Y model w (f7_counting Z N) (ntOf model) N) 3) k) ((f7_findFit (Z 0) (Z 1) Y model w (f7_counting Z N) (ntOf model) N) 5 0) what c_5) (wa tw707 rfl) (wa tw705 rfl) (wa tw706 rfl) (wa tw8 rfl) (by decide +kernel) ⟨Nat.le_of_ble_eq_true rfl, Nat.le_of_ble_eq_true rfl⟩ pS0 hl.1 rfl (Nat.le_of_ble_eq_true rfl) dX7_fit_85 ⟨Nat.le_of_ble_eq_true rfl, Nat.le_of_ble_eq_true rfl⟩ rfl rfl rfl) ?_
            have hb_0 : (f7_fit_Y Z Y N model (nI w) (nI k) what) = f7_findFit (Z 0) (Z 1) Y model w (f7_counting Z N) (ntOf model) N := (by simp only [f7_fit, f7_fit_Y, if_neg c_1, if_neg c_2, if_neg c_3, if_neg c_4, if_neg c_5, hix_w, hix_k])
            have hP9 : va_P D vwCl ((wZ a C Z (f7_fit_Y Z Y N model (nI w) (nI k) what))) H := by rw [hb_0]; exact hP
            have hD9 : va_D A ((wZ a C Z (f7_fit_Y Z Y N model (nI w) (nI k) what))) := by rw [hb_0]; exact hD
            exact W.lret (v := f7_share (((f7_findFit (Z 0) (Z 1) Y model w (f7_counting Z N) (ntOf model) N) 3) k) ((f7_findFit (Z 0) (Z 1) Y model w (f7_counting Z N) (ntOf model) N) 5 0) what) hx hb hr (fun t ht _ => ⟨⟨_, (), rfl, (by simp only [f7_fit, f7_fit_Y, if_neg c_1, if_neg c_2, if_neg c_3, if_neg c_4, if_neg c_5, hix_w, hix_k]), ⟨by rw [ht]; exact hP9, by rw [hAe]; exact hD9⟩⟩, hS.F ht⟩) hS.2.2 dX7_fit_88
          · refine lv_ldc2 hx hb hown (hW _ (wa tw704 rfl)) dX7_fit_67 ?_
            refine lv_goto (tgt := 88) hx hb dX7_fit_70 (by decide) ?_
            have hb_0 : (f7_fit_Y Z Y N model (nI w) (nI k) what) = f7_findFit (Z 0) (Z 1) Y model w (f7_counting Z N) (ntOf model) N := (by simp only [f7_fit, f7_fit_Y, if_neg c_1, if_neg c_2, if_neg c_3, if_neg c_4, if_pos c_5, hix_w, hix_k])
            have hP9 : va_P D vwCl ((wZ a C Z (f7_fit_Y Z Y N model (nI w) (nI k) what))) H := by rw [hb_0]; exact hP
            have hD9 : va_D A ((wZ a C Z (f7_fit_Y Z Y N model (nI w) (nI k) what))) := by rw [hb_0]; exact hD
            exact W.lret (v := (-100003)) hx hb hr (fun t ht _ => ⟨⟨_, (), rfl, (by simp only [f7_fit, f7_fit_Y, if_neg c_1, if_neg c_2, if_neg c_3, if_neg c_4, if_pos c_5, hix_w, hix_k]), ⟨by rw [ht]; exact hP9, by rw [hAe]; exact hD9⟩⟩, hS.F ht⟩) hS.2.2 dX7_fit_88
        · refine lv_ldc2 hx hb hown (hW _ (wa tw680 rfl)) dX7_fit_44 ?_
          have hb_0 : (f7_fit_Y Z Y N model (nI w) (nI k) what) = Y := (by simp only [f7_fit, f7_fit_Y, if_neg c_1, if_neg c_2, if_neg c_3, if_pos c_4, hix_w, hix_k])
          have hP9 : va_P D vwCl ((wZ a C Z (f7_fit_Y Z Y N model (nI w) (nI k) what))) s.heap := by rw [hb_0]; exact hP
          have hD9 : va_D A ((wZ a C Z (f7_fit_Y Z Y N model (nI w) (nI k) what))) := by rw [hb_0]; exact hD
          exact W.lret (v := (-100002)) hx hb hr (fun t ht _ => ⟨⟨_, (), rfl, (by simp only [f7_fit, f7_fit_Y, if_neg c_1, if_neg c_2, if_neg c_3, if_pos c_4, hix_w, hix_k]), ⟨by rw [ht]; exact hP9, by rw [hAe]; exact hD9⟩⟩, hS.F ht⟩) hS.2.2 dX7_fit_47

def f7_rest (Z : Nat → Nat → Int32) (Y : Nat → Nat → Int64) (N : Nat) (model way x what : Int32) : Int64 := (if (f7_isMark Z x) = 0 then ((-100001)) else (if (f7_isModel model) = 0 then ((-100002)) else (if (f7_in way.toInt64 0 1) = 0 then ((-100002)) else (if (f7_in what.toInt64 0 1) = 0 then ((-100002)) else (if ((f7_findFit (Z 0) (Z 1) Y model (ix way) (f7_counting Z N) (ntOf model) N) 5 0) = 0 then ((-100003)) else (if ((Z 2) (ix x)) = 0 then (f7_share (f7_restOf (Z 0) (Z 1) ((f7_findFit (Z 0) (Z 1) Y model (ix way) (f7_counting Z N) (ntOf model) N) 3) ((f7_findFit (Z 0) (Z 1) Y model (ix way) (f7_counting Z N) (ntOf model) N) 5 0) model (ix way) (ix x) (ntOf model)) ((f7_findFit (Z 0) (Z 1) Y model (ix way) (f7_counting Z N) (ntOf model) N) 5 0) what) else ((-100003))))))))
def f7_rest_Y (Z : Nat → Nat → Int32) (Y : Nat → Nat → Int64) (N : Nat) (model way x what : Int32) : Nat → Nat → Int64 := (if (f7_isMark Z x) = 0 then (Y) else (if (f7_isModel model) = 0 then (Y) else (if (f7_in way.toInt64 0 1) = 0 then (Y) else (if (f7_in what.toInt64 0 1) = 0 then (Y) else (f7_findFit (Z 0) (Z 1) Y model (ix way) (f7_counting Z N) (ntOf model) N)))))
set_option maxHeartbeats 4000000 in
set_option maxRecDepth 100000 in
theorem kX7_rest (l : Launch) (D : va_G) (C : Nat → ClassId) (a : Nat → Nat) (Z : Nat → Nat → Int32) (Y : Nat → Nat → Int64) (model way x what : Int32) (sz : Nat) (N : Nat) (hN : Z 12 0 = nI N) (hN12 : N ≤ 12) : Wl l D C yX7_rest cX7_rest 5 4 [.ref (a 0), .int model, .int way, .int x, .int what] (wZ a C Z Y) ((wZ a C Z (f7_rest_Y Z Y N model way x what))) (f7_rest Z Y N model way x what) sz := by
  refine Met.ofW (cc := cX7_rest) (maxL := 5) (ret := (some .long)) (by decide) rfl ?_
  intro p e s m args below meth c s₁ B hml hv
  obtain ⟨rfl, hsz, hP, hK, hNw, hD0⟩ := hv
  have hx := B.exec
  have hb := B.bytes
  have hr := B.returns
  have hts := atoms_spec (ws := wm yX7_rest cX7_rest 5 (some .long)) B.pre
  have hown : s.vm.findClass RX7 = some m.cls := findClass_of_methodNamed B.named
  have hlocks := B.notSynchronized
  have hW : ∀ w ∈ WA, w.before _ s = true := fun w h => hts w (List.mem_cons_of_mem _ h)
  subst hsz
  have hD := hD0.self (sz := s.heap.size)
  generalize hAe : va_A (wZ a C Z Y) s.heap.size = A at hD ⊢
  have hA : ∀ q : Nat, s.heap.size ≤ q → A q := fun q h => by rw [← hAe]; exact Or.inr h
  have hS : va_S A s.heap s.heap [] := va_S.rf
  have hP : va_P D vwCl [((a 0), .inr (7, [.int (Z 12 0), .ref (a 1), .ref (a 2), .ref (a 3), .ref (a 4), .int (Z 12 1), .ref (a 5), .ref (a 6), .ref (a 7), .ref (a 8), .ref (a 9), .int (Z 12 2), .ref (a 10), .int (Z 12 3), .int (Z 12 4), .ref (a 11), .ref (a 12), .long (Y 5 0), .ref (a 13), .ref (a 14), .ref (a 15), .ref (a 16), .ref (a 17)])), ((a 1), eI C 48 (Z 0)), ((a 2), eI C 24 (Z 1)), ((a 3), eZ C 12 (Z 2)), ((a 4), eZ C 12 (Z 3)), ((a 5), eI C 60 (Z 4)), ((a 6), eI C 60 (Z 5)), ((a 7), eI C 60 (Z 6)), ((a 8), eZ C 60 (Z 7)), ((a 9), eZ C 244 (Z 8)), ((a 10), eI C 24 (Z 9)), ((a 11), eJ C 9 (Y 0)), ((a 12), eJ C 9 (Y 1)), ((a 13), eJ C 3 (Y 2)), ((a 14), eJ C 3 (Y 3)), ((a 15), eJ C 12 (Y 4)), ((a 16), eI C 6 (Z 10)), ((a 17), eI C 4 (Z 11))] s.heap := hP
  have hD : va_D A [((a 0), .inr (7, [.int (Z 12 0), .ref (a 1), .ref (a 2), .ref (a 3), .ref (a 4), .int (Z 12 1), .ref (a 5), .ref (a 6), .ref (a 7), .ref (a 8), .ref (a 9), .int (Z 12 2), .ref (a 10), .int (Z 12 3), .int (Z 12 4), .ref (a 11), .ref (a 12), .long (Y 5 0), .ref (a 13), .ref (a 14), .ref (a 15), .ref (a 16), .ref (a 17)])), ((a 1), eI C 48 (Z 0)), ((a 2), eI C 24 (Z 1)), ((a 3), eZ C 12 (Z 2)), ((a 4), eZ C 12 (Z 3)), ((a 5), eI C 60 (Z 4)), ((a 6), eI C 60 (Z 5)), ((a 7), eI C 60 (Z 6)), ((a 8), eZ C 60 (Z 7)), ((a 9), eZ C 244 (Z 8)), ((a 10), eI C 24 (Z 9)), ((a 11), eJ C 9 (Y 0)), ((a 12), eJ C 9 (Y 1)), ((a 13), eJ C 3 (Y 2)), ((a 14), eJ C 3 (Y 3)), ((a 15), eJ C 12 (Y 4)), ((a 16), eI C 6 (Z 10)), ((a 17), eI C 4 (Z 11))] := hD
  have hl := lv_entry ([.ref (a 0), .int model, .int way, .int x, .int what]) (n := 5) (Nat.le_of_ble_eq_true rfl)
  rw [lg_entry_eq]
  generalize (lg_sl ([.ref (a 0), .int model, .int way, .int x, .int what]) ++ List.replicate (5 - (lg_sl ([.ref (a 0), .int model, .int way, .int x, .int what])).length) Slot.unset).toArray = ls at hl ⊢
  have hl : lv_has ls 5 [(0, .ref (a 0)), (1, .int model), (2, .int way), (3, .int x), (4, .int what)] := hl
  refine lv_aload_n hx hb dX7_rest_0 rfl (lv_at hl 0 rfl) ?_
  refine lv_iload_n hx hb dX7_rest_1 rfl (lv_at hl 3 rfl) ?_
  refine xri (r := f7_isMark Z x) (rV (As := [.int x]) (n := 1) (rest := []) ⟨hx, hb, hml, hown, hW⟩ (kX7_isMark l D C a Z Y x ) (wa tw640 rfl) (wa tw637 rfl) (wa tw639 rfl) (was ts37 rfl) (wa tw8 rfl) (by decide +kernel) ⟨Nat.le_of_ble_eq_true rfl, Nat.le_of_ble_eq_true rfl⟩ (pVr hP hK hNw 0 rfl rfl) hl.1 rfl (Nat.le_of_ble_eq_true rfl) dX7_rest_2 ⟨Nat.le_of_ble_eq_true rfl, Nat.le_of_ble_eq_true rfl⟩ rfl rfl rfl) ?_
  refine lv_if_ne (tgt := 12) hx hb dX7_rest_5 (by decide) (fun c_1 => ?_) (fun c_1 => ?_)
  · obtain ⟨k, hk, rfl⟩ := q_isMark hN hN12 c_1
    have hix_k : ix (nI k) = k := ix_nI (by omega)
    refine lv_iload_n hx hb dX7_rest_12 rfl (lv_at hl 1 rfl) ?_
    refine xri (r := f7_isModel model) (rS (As := [.int model]) (n := 1) (rest := []) ⟨hx, hb, hml, hown, hW⟩ (kX7_isModel l model) (wa tw678 rfl) (wa tw676 rfl) (wa tw677 rfl) (wa tw8 rfl) (by decide +kernel) ⟨Nat.le_of_ble_eq_true rfl, Nat.le_of_ble_eq_true rfl⟩ pS0 hl.1 rfl (Nat.le_of_ble_eq_true rfl) dX7_rest_13 ⟨Nat.le_of_ble_eq_true rfl, Nat.le_of_ble_eq_true rfl⟩ rfl rfl rfl) ?_
    refine lv_if_eq (tgt := 40) hx hb dX7_rest_16 (by decide) (fun c_2 => ?_) (fun c_2 => ?_)
    · refine lv_ldc2 hx hb hown (hW _ (wa tw680 rfl)) dX7_rest_40 ?_
      have hb_0 : (f7_rest_Y Z Y N model way (nI k) what) = Y := (by simp only [f7_rest, f7_rest_Y, if_neg c_1, if_pos c_2, hix_k])
      have hP9 : va_P D vwCl ((wZ a C Z (f7_rest_Y Z Y N model way (nI k) what))) s.heap := by rw [hb_0]; exact hP
      have hD9 : va_D A ((wZ a C Z (f7_rest_Y Z Y N model way (nI k) what))) := by rw [hb_0]; exact hD
      exact W.lret (v := (-100002)) hx hb hr (fun t ht _ => ⟨⟨_, (), rfl, (by simp only [f7_rest, f7_rest_Y, if_neg c_1, if_pos c_2, hix_k]), ⟨by rw [ht]; exact hP9, by rw [hAe]; exact hD9⟩⟩, hS.F ht⟩) hS.2.2 dX7_rest_43
    · refine lv_iload_n hx hb dX7_rest_19 rfl (lv_at hl 2 rfl) ?_
      refine lv_i2l (v := way.toInt64) hx hb dX7_rest_20 rfl ?_
      refine lv_lconst (v := 0) hx hb dX7_rest_21 (by decide) ?_
      refine lv_lconst (v := 1) hx hb dX7_rest_22 (by decide) ?_
      refine xri (r := f7_in way.toInt64 0 1) (rS (As := [.long way.toInt64, .long 0, .long 1]) (n := 3) (rest := []) ⟨hx, hb, hml, hown, hW⟩ (kX7_in l way.toInt64 0 1) (wa tw628 rfl) (wa tw626 rfl) (wa tw627 rfl) (wa tw8 rfl) (by decide +kernel) ⟨Nat.le_of_ble_eq_true rfl, Nat.le_of_ble_eq_true rfl⟩ pS0 hl.1 rfl (Nat.le_of_ble_eq_true rfl) dX7_rest_23 ⟨Nat.le_of_ble_eq_true rfl, Nat.le_of_ble_eq_true rfl⟩ rfl rfl rfl) ?_
      refine lv_if_eq (tgt := 40) hx hb dX7_rest_26 (by decide) (fun c_3 => ?_) (fun c_3 => ?_)
      · refine lv_ldc2 hx hb hown (hW _ (wa tw680 rfl)) dX7_rest_40 ?_
        have hb_0 : (f7_rest_Y Z Y N model way (nI k) what) = Y := (by simp only [f7_rest, f7_rest_Y, if_neg c_1, if_neg c_2, if_pos c_3, hix_k])
        have hP9 : va_P D vwCl ((wZ a C Z (f7_rest_Y Z Y N model way (nI k) what))) s.heap := by rw [hb_0]; exact hP
        have hD9 : va_D A ((wZ a C Z (f7_rest_Y Z Y N model way (nI k) what))) := by rw [hb_0]; exact hD
        exact W.lret (v := (-100002)) hx hb hr (fun t ht _ => ⟨⟨_, (), rfl, (by simp only [f7_rest, f7_rest_Y, if_neg c_1, if_neg c_2, if_pos c_3, hix_k]), ⟨by rw [ht]; exact hP9, by rw [hAe]; exact hD9⟩⟩, hS.F ht⟩) hS.2.2 dX7_rest_43
      · obtain ⟨w, hw, rfl⟩ := q_inC (n := 2) rfl (by decide) c_3
        have hix_w : ix (nI w) = w := ix_nI (by omega)
        refine lv_iload hx hb dX7_rest_29 (lv_at hl 4 rfl) ?_
        refine lv_i2l (v := what.toInt64) hx hb dX7_rest_31 rfl ?_
        refine lv_lconst (v := 0) hx hb dX7_rest_32 (by decide) ?_
        refine lv_lconst (v := 1) hx hb dX7_rest_33 (by decide) ?_
        refine xri (r := f7_in what.toInt64 0 1) (rS (As := [.long what.toInt64, .long 0, .long 1]) (n := 3) (rest := []) ⟨hx, hb, hml, hown, hW⟩ (kX7_in l what.toInt64 0 1) (wa tw628 rfl) (wa tw626 rfl) (wa tw627 rfl) (wa tw8 rfl) (by decide +kernel) ⟨Nat.le_of_ble_eq_true rfl, Nat.le_of_ble_eq_true rfl⟩ pS0 hl.1 rfl (Nat.le_of_ble_eq_true rfl) dX7_rest_34 ⟨Nat.le_of_ble_eq_true rfl, Nat.le_of_ble_eq_true rfl⟩ rfl rfl rfl) ?_
        refine lv_if_ne (tgt := 44) hx hb dX7_rest_37 (by decide) (fun c_4 => ?_) (fun c_4 => ?_)
        · refine lv_aload_n hx hb dX7_rest_44 rfl (lv_at hl 0 rfl) ?_
          refine lv_iload_n hx hb dX7_rest_45 rfl (lv_at hl 1 rfl) ?_
          refine lv_iload_n hx hb dX7_rest_46 rfl (lv_at hl 2 rfl) ?_
          refine lv_aload_n hx hb dX7_rest_47 rfl (lv_at hl 0 rfl) ?_
          refine xri (r := f7_counting Z N) (rV (As := []) (n := 0) (rest := [.int (nI w), .int model, .ref (a 0)]) ⟨hx, hb, hml, hown, hW⟩ (kX7_counting l D C a Z Y  N hN hN12) (wa tw660 rfl) (wa tw657 rfl) (wa tw659 rfl) (was ts38 rfl) (wa tw8 rfl) (by decide +kernel) ⟨Nat.le_of_ble_eq_true rfl, Nat.le_of_ble_eq_true rfl⟩ (pVr hP hK hNw 0 rfl rfl) hl.1 rfl (Nat.le_of_ble_eq_true rfl) dX7_rest_48 ⟨Nat.le_of_ble_eq_true rfl, Nat.le_of_ble_eq_true rfl⟩ rfl rfl rfl) ?_
          refine xwv (wr := []) (rV (As := [.int model, .int (nI w), .int (f7_counting Z N)]) (n := 3) (rest := []) ⟨hx, hb, hml, hown, hW⟩ (kX7_findFit l D C a Z Y model w (f7_counting Z N) s.heap.size N hN hN12 (ntOf model) (ntOf_eq _) (ntOf_13 _) (by omega)) (wa tw703 rfl) (wa tw700 rfl) (wa tw702 rfl) (was ts44 rfl) (wa tw8 rfl) (by decide +kernel) ⟨Nat.le_of_ble_eq_true rfl, Nat.le_of_ble_eq_true rfl⟩ (pVw hP hD hK hNw 0 rfl rfl) hl.1 rfl (Nat.le_of_ble_eq_true rfl) dX7_rest_51 ⟨Nat.le_of_ble_eq_true rfl, Nat.le_of_ble_eq_true rfl⟩ rfl rfl rfl) hP hD hS hA [0, 1, 2, 3, 4, 5, 6, 7, 8, 9, 10, 11, 12, 13, 14, 15, 16, 17] [] rfl rfl (by decide) (by decide) (fun H locs hP hD hS => ?_)
          have hP : va_P D vwCl [((a 0), .inr (7, [.int (Z 12 0), .ref (a 1), .ref (a 2), .ref (a 3), .ref (a 4), .int (Z 12 1), .ref (a 5), .ref (a 6), .ref (a 7), .ref (a 8), .ref (a 9), .int (Z 12 2), .ref (a 10), .int (Z 12 3), .int (Z 12 4), .ref (a 11), .ref (a 12), .long ((f7_findFit (Z 0) (Z 1) Y model w (f7_counting Z N) (ntOf model) N) 5 0), .ref (a 13), .ref (a 14), .ref (a 15), .ref (a 16), .ref (a 17)])), ((a 1), eI C 48 (Z 0)), ((a 2), eI C 24 (Z 1)), ((a 3), eZ C 12 (Z 2)), ((a 4), eZ C 12 (Z 3)), ((a 5), eI C 60 (Z 4)), ((a 6), eI C 60 (Z 5)), ((a 7), eI C 60 (Z 6)), ((a 8), eZ C 60 (Z 7)), ((a 9), eZ C 244 (Z 8)), ((a 10), eI C 24 (Z 9)), ((a 11), eJ C 9 ((f7_findFit (Z 0) (Z 1) Y model w (f7_counting Z N) (ntOf model) N) 0)), ((a 12), eJ C 9 ((f7_findFit (Z 0) (Z 1) Y model w (f7_counting Z N) (ntOf model) N) 1)), ((a 13), eJ C 3 ((f7_findFit (Z 0) (Z 1) Y model w (f7_counting Z N) (ntOf model) N) 2)), ((a 14), eJ C 3 ((f7_findFit (Z 0) (Z 1) Y model w (f7_counting Z N) (ntOf model) N) 3)), ((a 15), eJ C 12 ((f7_findFit (Z 0) (Z 1) Y model w (f7_counting Z N) (ntOf model) N) 4)), ((a 16), eI C 6 (Z 10)), ((a 17), eI C 4 (Z 11))] H := hP
          have hD : va_D A [((a 0), .inr (7, [.int (Z 12 0), .ref (a 1), .ref (a 2), .ref (a 3), .ref (a 4), .int (Z 12 1), .ref (a 5), .ref (a 6), .ref (a 7), .ref (a 8), .ref (a 9), .int (Z 12 2), .ref (a 10), .int (Z 12 3), .int (Z 12 4), .ref (a 11), .ref (a 12), .long ((f7_findFit (Z 0) (Z 1) Y model w (f7_counting Z N) (ntOf model) N) 5 0), .ref (a 13), .ref (a 14), .ref (a 15), .ref (a 16), .ref (a 17)])), ((a 1), eI C 48 (Z 0)), ((a 2), eI C 24 (Z 1)), ((a 3), eZ C 12 (Z 2)), ((a 4), eZ C 12 (Z 3)), ((a 5), eI C 60 (Z 4)), ((a 6), eI C 60 (Z 5)), ((a 7), eI C 60 (Z 6)), ((a 8), eZ C 60 (Z 7)), ((a 9), eZ C 244 (Z 8)), ((a 10), eI C 24 (Z 9)), ((a 11), eJ C 9 ((f7_findFit (Z 0) (Z 1) Y model w (f7_counting Z N) (ntOf model) N) 0)), ((a 12), eJ C 9 ((f7_findFit (Z 0) (Z 1) Y model w (f7_counting Z N) (ntOf model) N) 1)), ((a 13), eJ C 3 ((f7_findFit (Z 0) (Z 1) Y model w (f7_counting Z N) (ntOf model) N) 2)), ((a 14), eJ C 3 ((f7_findFit (Z 0) (Z 1) Y model w (f7_counting Z N) (ntOf model) N) 3)), ((a 15), eJ C 12 ((f7_findFit (Z 0) (Z 1) Y model w (f7_counting Z N) (ntOf model) N) 4)), ((a 16), eI C 6 (Z 10)), ((a 17), eI C 4 (Z 11))] := hD
          refine lv_aload_n hx hb dX7_rest_54 rfl (lv_at hl 0 rfl) ?_
          refine va_get (D := D) (ci := 7) (C := RX7) (T := TX7) (N := 23) hx hb hW inX7 hown hK hP 0 rfl rfl 17 (by decide) (hW _ (wa tw567 rfl)) (fun _ h9 => h9) rfl dX7_rest_55 ?_
          refine lv_lconst (v := 0) hx hb dX7_rest_58 (by decide) ?_
          refine xlcmp_eq (tgt := 72) hx hb dX7_rest_59 dX7_rest_60 (by decide) (fun c_5 => ?_) (fun c_5 => ?_)
          · refine lv_ldc2 hx hb hown (hW _ (wa tw704 rfl)) dX7_rest_72 ?_
            refine lv_goto (tgt := 94) hx hb dX7_rest_75 (by decide) ?_
            have hb_0 : (f7_rest_Y Z Y N model (nI w) (nI k) what) = f7_findFit (Z 0) (Z 1) Y model w (f7_counting Z N) (ntOf model) N := (by simp only [f7_rest, f7_rest_Y, if_neg c_1, if_neg c_2, if_neg c_3, if_neg c_4, if_pos c_5, hix_w, hix_k])
            have hP9 : va_P D vwCl ((wZ a C Z (f7_rest_Y Z Y N model (nI w) (nI k) what))) H := by rw [hb_0]; exact hP
            have hD9 : va_D A ((wZ a C Z (f7_rest_Y Z Y N model (nI w) (nI k) what))) := by rw [hb_0]; exact hD
            exact W.lret (v := (-100003)) hx hb hr (fun t ht _ => ⟨⟨_, (), rfl, (by simp only [f7_rest, f7_rest_Y, if_neg c_1, if_neg c_2, if_neg c_3, if_neg c_4, if_pos c_5, hix_w, hix_k]), ⟨by rw [ht]; exact hP9, by rw [hAe]; exact hD9⟩⟩, hS.F ht⟩) hS.2.2 dX7_rest_94
          · refine lv_aload_n hx hb dX7_rest_63 rfl (lv_at hl 0 rfl) ?_
            refine va_get (D := D) (ci := 7) (C := RX7) (T := TX7) (N := 23) hx hb hW inX7 hown hK hP 0 rfl rfl 3 (by decide) (hW _ (wa tw553 rfl)) (fun _ h9 => h9) rfl dX7_rest_64 ?_
            refine lv_iload_n hx hb dX7_rest_67 rfl (lv_at hl 3 rfl) ?_
            refine xzald hx hb hK hP 3 rfl k rfl (by omega) (by decide) dX7_rest_68 ?_
            refine lv_if_eq (tgt := 78) hx hb dX7_rest_69 (by decide) (fun c_6 => ?_) (fun c_6 => ?_)
            · refine lv_aload_n hx hb dX7_rest_78 rfl (lv_at hl 0 rfl) ?_
              refine lv_iload_n hx hb dX7_rest_79 rfl (lv_at hl 1 rfl) ?_
              refine lv_iload_n hx hb dX7_rest_80 rfl (lv_at hl 2 rfl) ?_
              refine lv_iload_n hx hb dX7_rest_81 rfl (lv_at hl 3 rfl) ?_
              refine xrl (r := f7_restOf (Z 0) (Z 1) ((f7_findFit (Z 0) (Z 1) Y model w (f7_counting Z N) (ntOf model) N) 3) ((f7_findFit (Z 0) (Z 1) Y model w (f7_counting Z N) (ntOf model) N) 5 0) model w k (ntOf model)) (rV (As := [.int model, .int (nI w), .int (nI k)]) (n := 3) (rest := []) ⟨hx, hb, hml, hown, hW⟩ (kX7_restOf l D C a Z (f7_findFit (Z 0) (Z 1) Y model w (f7_counting Z N) (ntOf model) N) model w k (ntOf model) (ntOf_eq _) (ntOf_13 _) (by omega) (by omega)) (wa tw719 rfl) (wa tw716 rfl) (wa tw718 rfl) (was ts45 rfl) (wa tw8 rfl) (by decide +kernel) ⟨Nat.le_of_ble_eq_true rfl, Nat.le_of_ble_eq_true rfl⟩ (pVr hP hK hNw 0 rfl rfl) hl.1 rfl (Nat.le_of_ble_eq_true rfl) dX7_rest_82 ⟨Nat.le_of_ble_eq_true rfl, Nat.le_of_ble_eq_true rfl⟩ rfl rfl rfl) ?_
              refine lv_aload_n hx hb dX7_rest_85 rfl (lv_at hl 0 rfl) ?_
              refine va_get (D := D) (ci := 7) (C := RX7) (T := TX7) (N := 23) hx hb hW inX7 hown hK hP 0 rfl rfl 17 (by decide) (hW _ (wa tw567 rfl)) (fun _ h9 => h9) rfl dX7_rest_86 ?_
              refine lv_iload hx hb dX7_rest_89 (lv_at hl 4 rfl) ?_
              refine xrl (r := f7_share (f7_restOf (Z 0) (Z 1) ((f7_findFit (Z 0) (Z 1) Y model w (f7_counting Z N) (ntOf model) N) 3) ((f7_findFit (Z 0) (Z 1) Y model w (f7_counting Z N) (ntOf model) N) 5 0) model w k (ntOf model)) ((f7_findFit (Z 0) (Z 1) Y model w (f7_counting Z N) (ntOf model) N) 5 0) what) (rS (As := [.long (f7_restOf (Z 0) (Z 1) ((f7_findFit (Z 0) (Z 1) Y model w (f7_counting Z N) (ntOf model) N) 3) ((f7_findFit (Z 0) (Z 1) Y model w (f7_counting Z N) (ntOf model) N) 5 0) model w k (ntOf model)), .long ((f7_findFit (Z 0) (Z 1) Y model w (f7_counting Z N) (ntOf model) N) 5 0), .int what]) (n := 3) (rest := []) ⟨hx, hb, hml, hown, hW⟩ (kX7_share l (f7_restOf (Z 0) (Z 1) ((f7_findFit (Z 0) (Z 1) Y model w (f7_counting Z N) (ntOf model) N) 3) ((f7_findFit (Z 0) (Z 1) Y model w (f7_counting Z N) (ntOf model) N) 5 0) model w k (ntOf model)) ((f7_findFit (Z 0) (Z 1) Y model w (f7_counting Z N) (ntOf model) N) 5 0) what c_5) (wa tw707 rfl) (wa tw705 rfl) (wa tw706 rfl) (wa tw8 rfl) (by decide +kernel) ⟨Nat.le_of_ble_eq_true rfl, Nat.le_of_ble_eq_true rfl⟩ pS0 hl.1 rfl (Nat.le_of_ble_eq_true rfl) dX7_rest_91 ⟨Nat.le_of_ble_eq_true rfl, Nat.le_of_ble_eq_true rfl⟩ rfl rfl rfl) ?_
              have hb_0 : (f7_rest_Y Z Y N model (nI w) (nI k) what) = f7_findFit (Z 0) (Z 1) Y model w (f7_counting Z N) (ntOf model) N := (by simp only [f7_rest, f7_rest_Y, if_neg c_1, if_neg c_2, if_neg c_3, if_neg c_4, if_neg c_5, if_pos c_6, hix_w, hix_k])
              have hP9 : va_P D vwCl ((wZ a C Z (f7_rest_Y Z Y N model (nI w) (nI k) what))) H := by rw [hb_0]; exact hP
              have hD9 : va_D A ((wZ a C Z (f7_rest_Y Z Y N model (nI w) (nI k) what))) := by rw [hb_0]; exact hD
              exact W.lret (v := f7_share (f7_restOf (Z 0) (Z 1) ((f7_findFit (Z 0) (Z 1) Y model w (f7_counting Z N) (ntOf model) N) 3) ((f7_findFit (Z 0) (Z 1) Y model w (f7_counting Z N) (ntOf model) N) 5 0) model w k (ntOf model)) ((f7_findFit (Z 0) (Z 1) Y model w (f7_counting Z N) (ntOf model) N) 5 0) what) hx hb hr (fun t ht _ => ⟨⟨_, (), rfl, (by simp only [f7_rest, f7_rest_Y, if_neg c_1, if_neg c_2, if_neg c_3, if_neg c_4, if_neg c_5, if_pos c_6, hix_w, hix_k]), ⟨by rw [ht]; exact hP9, by rw [hAe]; exact hD9⟩⟩, hS.F ht⟩) hS.2.2 dX7_rest_94
            · refine lv_ldc2 hx hb hown (hW _ (wa tw704 rfl)) dX7_rest_72 ?_
              refine lv_goto (tgt := 94) hx hb dX7_rest_75 (by decide) ?_
              have hb_0 : (f7_rest_Y Z Y N model (nI w) (nI k) what) = f7_findFit (Z 0) (Z 1) Y model w (f7_counting Z N) (ntOf model) N := (by simp only [f7_rest, f7_rest_Y, if_neg c_1, if_neg c_2, if_neg c_3, if_neg c_4, if_neg c_5, if_neg c_6, hix_w, hix_k])
              have hP9 : va_P D vwCl ((wZ a C Z (f7_rest_Y Z Y N model (nI w) (nI k) what))) H := by rw [hb_0]; exact hP
              have hD9 : va_D A ((wZ a C Z (f7_rest_Y Z Y N model (nI w) (nI k) what))) := by rw [hb_0]; exact hD
              exact W.lret (v := (-100003)) hx hb hr (fun t ht _ => ⟨⟨_, (), rfl, (by simp only [f7_rest, f7_rest_Y, if_neg c_1, if_neg c_2, if_neg c_3, if_neg c_4, if_neg c_5, if_neg c_6, hix_w, hix_k]), ⟨by rw [ht]; exact hP9, by rw [hAe]; exact hD9⟩⟩, hS.F ht⟩) hS.2.2 dX7_rest_94
        · refine lv_ldc2 hx hb hown (hW _ (wa tw680 rfl)) dX7_rest_40 ?_
          have hb_0 : (f7_rest_Y Z Y N model (nI w) (nI k) what) = Y := (by simp only [f7_rest, f7_rest_Y, if_neg c_1, if_neg c_2, if_neg c_3, if_pos c_4, hix_w, hix_k])
          have hP9 : va_P D vwCl ((wZ a C Z (f7_rest_Y Z Y N model (nI w) (nI k) what))) s.heap := by rw [hb_0]; exact hP
          have hD9 : va_D A ((wZ a C Z (f7_rest_Y Z Y N model (nI w) (nI k) what))) := by rw [hb_0]; exact hD
          exact W.lret (v := (-100002)) hx hb hr (fun t ht _ => ⟨⟨_, (), rfl, (by simp only [f7_rest, f7_rest_Y, if_neg c_1, if_neg c_2, if_neg c_3, if_pos c_4, hix_w, hix_k]), ⟨by rw [ht]; exact hP9, by rw [hAe]; exact hD9⟩⟩, hS.F ht⟩) hS.2.2 dX7_rest_43
  · refine lv_ldc2 hx hb hown (hW _ (wa tw715 rfl)) dX7_rest_8 ?_
    have hb_0 : (f7_rest_Y Z Y N model way x what) = Y := (by simp only [f7_rest, f7_rest_Y, if_pos c_1])
    have hP9 : va_P D vwCl ((wZ a C Z (f7_rest_Y Z Y N model way x what))) s.heap := by rw [hb_0]; exact hP
    have hD9 : va_D A ((wZ a C Z (f7_rest_Y Z Y N model way x what))) := by rw [hb_0]; exact hD
    exact W.lret (v := (-100001)) hx hb hr (fun t ht _ => ⟨⟨_, (), rfl, (by simp only [f7_rest, f7_rest_Y, if_pos c_1]), ⟨by rw [ht]; exact hP9, by rw [hAe]; exact hD9⟩⟩, hS.F ht⟩) hS.2.2 dX7_rest_11

def sqL (Z : Nat → Nat → Int32) (w : Nat) : Nat → Nat → Int64 → Int64
  | 0, _, x => x
  | n + 1, k, x => sqL Z w n (k + 1) (x + (if f7_counts Z k = 0 then 0 else (Z 1 (2 * k + w)).toInt64 * (Z 1 (2 * k + w)).toInt64))
def spL (fac sid : Nat → Int64) : Nat → Nat → Int64 → Int64
  | 0, _, x => x
  | n + 1, t, x => spL fac sid n (t + 1) (x - fac t * sid t)

def f7_spread (Z : Nat → Nat → Int32) (Y : Nat → Nat → Int64) (N : Nat) (model way what : Int32) : Int64 := (if (f7_isModel model) = 0 then ((-100002)) else (if (f7_in way.toInt64 0 1) = 0 then ((-100002)) else (if (f7_in what.toInt64 0 1) = 0 then ((-100002)) else (if ((f7_findFit (Z 0) (Z 1) Y model (ix way) (f7_counting Z N) (ntOf model) N) 5 0) = 0 then ((-100003)) else (f7_share (spL ((f7_findFit (Z 0) (Z 1) Y model (ix way) (f7_counting Z N) (ntOf model) N) 3) ((f7_findFit (Z 0) (Z 1) Y model (ix way) (f7_counting Z N) (ntOf model) N) 2) 3 0 (sqL Z (ix way) N 0 0 * (f7_findFit (Z 0) (Z 1) Y model (ix way) (f7_counting Z N) (ntOf model) N) 5 0)) ((f7_findFit (Z 0) (Z 1) Y model (ix way) (f7_counting Z N) (ntOf model) N) 5 0) what)))))
def f7_spread_Y (Z : Nat → Nat → Int32) (Y : Nat → Nat → Int64) (N : Nat) (model way what : Int32) : Nat → Nat → Int64 := (if (f7_isModel model) = 0 then (Y) else (if (f7_in way.toInt64 0 1) = 0 then (Y) else (if (f7_in what.toInt64 0 1) = 0 then (Y) else (f7_findFit (Z 0) (Z 1) Y model (ix way) (f7_counting Z N) (ntOf model) N))))
set_option maxHeartbeats 4000000 in
set_option maxRecDepth 100000 in
theorem kX7_spread (l : Launch) (D : va_G) (C : Nat → ClassId) (a : Nat → Nat) (Z : Nat → Nat → Int32) (Y : Nat → Nat → Int64) (model way what : Int32) (sz : Nat) (N : Nat) (hN : Z 12 0 = nI N) (hN12 : N ≤ 12) : Wl l D C yX7_spread cX7_spread 9 4 [.ref (a 0), .int model, .int way, .int what] (wZ a C Z Y) ((wZ a C Z (f7_spread_Y Z Y N model way what))) (f7_spread Z Y N model way what) sz := by
  refine Met.ofW (cc := cX7_spread) (maxL := 9) (ret := (some .long)) (by decide) rfl ?_
  intro p e s m args below meth c s₁ B hml hv
  obtain ⟨rfl, hsz, hP, hK, hNw, hD0⟩ := hv
  have hx := B.exec
  have hb := B.bytes
  have hr := B.returns
  have hts := atoms_spec (ws := wm yX7_spread cX7_spread 9 (some .long)) B.pre
  have hown : s.vm.findClass RX7 = some m.cls := findClass_of_methodNamed B.named
  have hlocks := B.notSynchronized
  have hW : ∀ w ∈ WA, w.before _ s = true := fun w h => hts w (List.mem_cons_of_mem _ h)
  subst hsz
  have hD := hD0.self (sz := s.heap.size)
  generalize hAe : va_A (wZ a C Z Y) s.heap.size = A at hD ⊢
  have hA : ∀ q : Nat, s.heap.size ≤ q → A q := fun q h => by rw [← hAe]; exact Or.inr h
  have hS : va_S A s.heap s.heap [] := va_S.rf
  have hP : va_P D vwCl [((a 0), .inr (7, [.int (Z 12 0), .ref (a 1), .ref (a 2), .ref (a 3), .ref (a 4), .int (Z 12 1), .ref (a 5), .ref (a 6), .ref (a 7), .ref (a 8), .ref (a 9), .int (Z 12 2), .ref (a 10), .int (Z 12 3), .int (Z 12 4), .ref (a 11), .ref (a 12), .long (Y 5 0), .ref (a 13), .ref (a 14), .ref (a 15), .ref (a 16), .ref (a 17)])), ((a 1), eI C 48 (Z 0)), ((a 2), eI C 24 (Z 1)), ((a 3), eZ C 12 (Z 2)), ((a 4), eZ C 12 (Z 3)), ((a 5), eI C 60 (Z 4)), ((a 6), eI C 60 (Z 5)), ((a 7), eI C 60 (Z 6)), ((a 8), eZ C 60 (Z 7)), ((a 9), eZ C 244 (Z 8)), ((a 10), eI C 24 (Z 9)), ((a 11), eJ C 9 (Y 0)), ((a 12), eJ C 9 (Y 1)), ((a 13), eJ C 3 (Y 2)), ((a 14), eJ C 3 (Y 3)), ((a 15), eJ C 12 (Y 4)), ((a 16), eI C 6 (Z 10)), ((a 17), eI C 4 (Z 11))] s.heap := hP
  have hD : va_D A [((a 0), .inr (7, [.int (Z 12 0), .ref (a 1), .ref (a 2), .ref (a 3), .ref (a 4), .int (Z 12 1), .ref (a 5), .ref (a 6), .ref (a 7), .ref (a 8), .ref (a 9), .int (Z 12 2), .ref (a 10), .int (Z 12 3), .int (Z 12 4), .ref (a 11), .ref (a 12), .long (Y 5 0), .ref (a 13), .ref (a 14), .ref (a 15), .ref (a 16), .ref (a 17)])), ((a 1), eI C 48 (Z 0)), ((a 2), eI C 24 (Z 1)), ((a 3), eZ C 12 (Z 2)), ((a 4), eZ C 12 (Z 3)), ((a 5), eI C 60 (Z 4)), ((a 6), eI C 60 (Z 5)), ((a 7), eI C 60 (Z 6)), ((a 8), eZ C 60 (Z 7)), ((a 9), eZ C 244 (Z 8)), ((a 10), eI C 24 (Z 9)), ((a 11), eJ C 9 (Y 0)), ((a 12), eJ C 9 (Y 1)), ((a 13), eJ C 3 (Y 2)), ((a 14), eJ C 3 (Y 3)), ((a 15), eJ C 12 (Y 4)), ((a 16), eI C 6 (Z 10)), ((a 17), eI C 4 (Z 11))] := hD
  have hl := lv_entry ([.ref (a 0), .int model, .int way, .int what]) (n := 9) (Nat.le_of_ble_eq_true rfl)
  rw [lg_entry_eq]
  generalize (lg_sl ([.ref (a 0), .int model, .int way, .int what]) ++ List.replicate (9 - (lg_sl ([.ref (a 0), .int model, .int way, .int what])).length) Slot.unset).toArray = ls at hl ⊢
  have hl : lv_has ls 9 [(0, .ref (a 0)), (1, .int model), (2, .int way), (3, .int what)] := hl
  refine lv_iload_n hx hb dX7_spread_0 rfl (lv_at hl 1 rfl) ?_
  refine xri (r := f7_isModel model) (rS (As := [.int model]) (n := 1) (rest := []) ⟨hx, hb, hml, hown, hW⟩ (kX7_isModel l model) (wa tw678 rfl) (wa tw676 rfl) (wa tw677 rfl) (wa tw8 rfl) (by decide +kernel) ⟨Nat.le_of_ble_eq_true rfl, Nat.le_of_ble_eq_true rfl⟩ pS0 hl.1 rfl (Nat.le_of_ble_eq_true rfl) dX7_spread_1 ⟨Nat.le_of_ble_eq_true rfl, Nat.le_of_ble_eq_true rfl⟩ rfl rfl rfl) ?_
  refine lv_if_eq (tgt := 27) hx hb dX7_spread_4 (by decide) (fun c_1 => ?_) (fun c_1 => ?_)
  · refine lv_ldc2 hx hb hown (hW _ (wa tw680 rfl)) dX7_spread_27 ?_
    have hb_0 : (f7_spread_Y Z Y N model way what) = Y := (by simp only [f7_spread, f7_spread_Y, if_pos c_1])
    have hP9 : va_P D vwCl ((wZ a C Z (f7_spread_Y Z Y N model way what))) s.heap := by rw [hb_0]; exact hP
    have hD9 : va_D A ((wZ a C Z (f7_spread_Y Z Y N model way what))) := by rw [hb_0]; exact hD
    exact W.lret (v := (-100002)) hx hb hr (fun t ht _ => ⟨⟨_, (), rfl, (by simp only [f7_spread, f7_spread_Y, if_pos c_1]), ⟨by rw [ht]; exact hP9, by rw [hAe]; exact hD9⟩⟩, hS.F ht⟩) hS.2.2 dX7_spread_30
  · refine lv_iload_n hx hb dX7_spread_7 rfl (lv_at hl 2 rfl) ?_
    refine lv_i2l (v := way.toInt64) hx hb dX7_spread_8 rfl ?_
    refine lv_lconst (v := 0) hx hb dX7_spread_9 (by decide) ?_
    refine lv_lconst (v := 1) hx hb dX7_spread_10 (by decide) ?_
    refine xri (r := f7_in way.toInt64 0 1) (rS (As := [.long way.toInt64, .long 0, .long 1]) (n := 3) (rest := []) ⟨hx, hb, hml, hown, hW⟩ (kX7_in l way.toInt64 0 1) (wa tw628 rfl) (wa tw626 rfl) (wa tw627 rfl) (wa tw8 rfl) (by decide +kernel) ⟨Nat.le_of_ble_eq_true rfl, Nat.le_of_ble_eq_true rfl⟩ pS0 hl.1 rfl (Nat.le_of_ble_eq_true rfl) dX7_spread_11 ⟨Nat.le_of_ble_eq_true rfl, Nat.le_of_ble_eq_true rfl⟩ rfl rfl rfl) ?_
    refine lv_if_eq (tgt := 27) hx hb dX7_spread_14 (by decide) (fun c_2 => ?_) (fun c_2 => ?_)
    · refine lv_ldc2 hx hb hown (hW _ (wa tw680 rfl)) dX7_spread_27 ?_
      have hb_0 : (f7_spread_Y Z Y N model way what) = Y := (by simp only [f7_spread, f7_spread_Y, if_neg c_1, if_pos c_2])
      have hP9 : va_P D vwCl ((wZ a C Z (f7_spread_Y Z Y N model way what))) s.heap := by rw [hb_0]; exact hP
      have hD9 : va_D A ((wZ a C Z (f7_spread_Y Z Y N model way what))) := by rw [hb_0]; exact hD
      exact W.lret (v := (-100002)) hx hb hr (fun t ht _ => ⟨⟨_, (), rfl, (by simp only [f7_spread, f7_spread_Y, if_neg c_1, if_pos c_2]), ⟨by rw [ht]; exact hP9, by rw [hAe]; exact hD9⟩⟩, hS.F ht⟩) hS.2.2 dX7_spread_30
    · obtain ⟨w, hw, rfl⟩ := q_inC (n := 2) rfl (by decide) c_2
      have hix_w : ix (nI w) = w := ix_nI (by omega)
      refine lv_iload_n hx hb dX7_spread_17 rfl (lv_at hl 3 rfl) ?_
      refine lv_i2l (v := what.toInt64) hx hb dX7_spread_18 rfl ?_
      refine lv_lconst (v := 0) hx hb dX7_spread_19 (by decide) ?_
      refine lv_lconst (v := 1) hx hb dX7_spread_20 (by decide) ?_
      refine xri (r := f7_in what.toInt64 0 1) (rS (As := [.long what.toInt64, .long 0, .long 1]) (n := 3) (rest := []) ⟨hx, hb, hml, hown, hW⟩ (kX7_in l what.toInt64 0 1) (wa tw628 rfl) (wa tw626 rfl) (wa tw627 rfl) (wa tw8 rfl) (by decide +kernel) ⟨Nat.le_of_ble_eq_true rfl, Nat.le_of_ble_eq_true rfl⟩ pS0 hl.1 rfl (Nat.le_of_ble_eq_true rfl) dX7_spread_21 ⟨Nat.le_of_ble_eq_true rfl, Nat.le_of_ble_eq_true rfl⟩ rfl rfl rfl) ?_
      refine lv_if_ne (tgt := 31) hx hb dX7_spread_24 (by decide) (fun c_3 => ?_) (fun c_3 => ?_)
      · refine lv_aload_n hx hb dX7_spread_31 rfl (lv_at hl 0 rfl) ?_
        refine lv_iload_n hx hb dX7_spread_32 rfl (lv_at hl 1 rfl) ?_
        refine lv_iload_n hx hb dX7_spread_33 rfl (lv_at hl 2 rfl) ?_
        refine lv_aload_n hx hb dX7_spread_34 rfl (lv_at hl 0 rfl) ?_
        refine xri (r := f7_counting Z N) (rV (As := []) (n := 0) (rest := [.int (nI w), .int model, .ref (a 0)]) ⟨hx, hb, hml, hown, hW⟩ (kX7_counting l D C a Z Y  N hN hN12) (wa tw660 rfl) (wa tw657 rfl) (wa tw659 rfl) (was ts38 rfl) (wa tw8 rfl) (by decide +kernel) ⟨Nat.le_of_ble_eq_true rfl, Nat.le_of_ble_eq_true rfl⟩ (pVr hP hK hNw 0 rfl rfl) hl.1 rfl (Nat.le_of_ble_eq_true rfl) dX7_spread_35 ⟨Nat.le_of_ble_eq_true rfl, Nat.le_of_ble_eq_true rfl⟩ rfl rfl rfl) ?_
        refine xwv (wr := []) (rV (As := [.int model, .int (nI w), .int (f7_counting Z N)]) (n := 3) (rest := []) ⟨hx, hb, hml, hown, hW⟩ (kX7_findFit l D C a Z Y model w (f7_counting Z N) s.heap.size N hN hN12 (ntOf model) (ntOf_eq _) (ntOf_13 _) (by omega)) (wa tw703 rfl) (wa tw700 rfl) (wa tw702 rfl) (was ts44 rfl) (wa tw8 rfl) (by decide +kernel) ⟨Nat.le_of_ble_eq_true rfl, Nat.le_of_ble_eq_true rfl⟩ (pVw hP hD hK hNw 0 rfl rfl) hl.1 rfl (Nat.le_of_ble_eq_true rfl) dX7_spread_38 ⟨Nat.le_of_ble_eq_true rfl, Nat.le_of_ble_eq_true rfl⟩ rfl rfl rfl) hP hD hS hA [0, 1, 2, 3, 4, 5, 6, 7, 8, 9, 10, 11, 12, 13, 14, 15, 16, 17] [] rfl rfl (by decide) (by decide) (fun H locs hP hD hS => ?_)
        have hP : va_P D vwCl [((a 0), .inr (7, [.int (Z 12 0), .ref (a 1), .ref (a 2), .ref (a 3), .ref (a 4), .int (Z 12 1), .ref (a 5), .ref (a 6), .ref (a 7), .ref (a 8), .ref (a 9), .int (Z 12 2), .ref (a 10), .int (Z 12 3), .int (Z 12 4), .ref (a 11), .ref (a 12), .long ((f7_findFit (Z 0) (Z 1) Y model w (f7_counting Z N) (ntOf model) N) 5 0), .ref (a 13), .ref (a 14), .ref (a 15), .ref (a 16), .ref (a 17)])), ((a 1), eI C 48 (Z 0)), ((a 2), eI C 24 (Z 1)), ((a 3), eZ C 12 (Z 2)), ((a 4), eZ C 12 (Z 3)), ((a 5), eI C 60 (Z 4)), ((a 6), eI C 60 (Z 5)), ((a 7), eI C 60 (Z 6)), ((a 8), eZ C 60 (Z 7)), ((a 9), eZ C 244 (Z 8)), ((a 10), eI C 24 (Z 9)), ((a 11), eJ C 9 ((f7_findFit (Z 0) (Z 1) Y model w (f7_counting Z N) (ntOf model) N) 0)), ((a 12), eJ C 9 ((f7_findFit (Z 0) (Z 1) Y model w (f7_counting Z N) (ntOf model) N) 1)), ((a 13), eJ C 3 ((f7_findFit (Z 0) (Z 1) Y model w (f7_counting Z N) (ntOf model) N) 2)), ((a 14), eJ C 3 ((f7_findFit (Z 0) (Z 1) Y model w (f7_counting Z N) (ntOf model) N) 3)), ((a 15), eJ C 12 ((f7_findFit (Z 0) (Z 1) Y model w (f7_counting Z N) (ntOf model) N) 4)), ((a 16), eI C 6 (Z 10)), ((a 17), eI C 4 (Z 11))] H := hP
        have hD : va_D A [((a 0), .inr (7, [.int (Z 12 0), .ref (a 1), .ref (a 2), .ref (a 3), .ref (a 4), .int (Z 12 1), .ref (a 5), .ref (a 6), .ref (a 7), .ref (a 8), .ref (a 9), .int (Z 12 2), .ref (a 10), .int (Z 12 3), .int (Z 12 4), .ref (a 11), .ref (a 12), .long ((f7_findFit (Z 0) (Z 1) Y model w (f7_counting Z N) (ntOf model) N) 5 0), .ref (a 13), .ref (a 14), .ref (a 15), .ref (a 16), .ref (a 17)])), ((a 1), eI C 48 (Z 0)), ((a 2), eI C 24 (Z 1)), ((a 3), eZ C 12 (Z 2)), ((a 4), eZ C 12 (Z 3)), ((a 5), eI C 60 (Z 4)), ((a 6), eI C 60 (Z 5)), ((a 7), eI C 60 (Z 6)), ((a 8), eZ C 60 (Z 7)), ((a 9), eZ C 244 (Z 8)), ((a 10), eI C 24 (Z 9)), ((a 11), eJ C 9 ((f7_findFit (Z 0) (Z 1) Y model w (f7_counting Z N) (ntOf model) N) 0)), ((a 12), eJ C 9 ((f7_findFit (Z 0) (Z 1) Y model w (f7_counting Z N) (ntOf model) N) 1)), ((a 13), eJ C 3 ((f7_findFit (Z 0) (Z 1) Y model w (f7_counting Z N) (ntOf model) N) 2)), ((a 14), eJ C 3 ((f7_findFit (Z 0) (Z 1) Y model w (f7_counting Z N) (ntOf model) N) 3)), ((a 15), eJ C 12 ((f7_findFit (Z 0) (Z 1) Y model w (f7_counting Z N) (ntOf model) N) 4)), ((a 16), eI C 6 (Z 10)), ((a 17), eI C 4 (Z 11))] := hD
        refine lv_aload_n hx hb dX7_spread_41 rfl (lv_at hl 0 rfl) ?_
        refine va_get (D := D) (ci := 7) (C := RX7) (T := TX7) (N := 23) hx hb hW inX7 hown hK hP 0 rfl rfl 17 (by decide) (hW _ (wa tw567 rfl)) (fun _ h9 => h9) rfl dX7_spread_42 ?_
        refine lv_lconst (v := 0) hx hb dX7_spread_45 (by decide) ?_
        refine xlcmp_ne (tgt := 54) hx hb dX7_spread_46 dX7_spread_47 (by decide) (fun c_4 => ?_) (fun c_4 => ?_)
        · refine lv_lconst (v := 0) hx hb dX7_spread_54 (by decide) ?_
          refine lv_lstore (lv' := [(4, .long 0), (0, .ref (a 0)), (1, .int model), (2, .int (nI w)), (3, .int what)]) hx hb dX7_spread_55 hl (by decide) rfl (fun ls hl => ?_)
          refine lv_iconst (v := 0) hx hb dX7_spread_57 (by decide) ?_
          refine lv_istore (lv' := [(6, .int 0), (4, .long 0), (0, .ref (a 0)), (1, .int model), (2, .int (nI w)), (3, .int what)]) hx hb dX7_spread_58 hl (by decide) rfl (fun ls hl => ?_)
          obtain ⟨n60, j, x, hinv⟩ : ∃ (n60 : Nat) (j : Nat) (x : Int64), (j + n60 = N) ∧ (sqL Z w n60 j x = sqL Z w N 0 0) ∧ lv_has ls 9 [(0, .ref (a 0)), (1, .int model), (2, .int (nI w)), (3, .int what), (4, .long x), (6, .int (nI j))] := ⟨N, 0, 0, by omega, rfl, lv_sub hl [2, 3, 4, 5, 1, 0] rfl⟩
          clear hl
          induction n60 generalizing j x ls with
          | zero =>
            obtain ⟨h60_0, h60_1, hl⟩ := hinv
            refine lv_iload hx hb dX7_spread_60 (lv_at hl 5 rfl) ?_
            refine lv_aload_n hx hb dX7_spread_62 rfl (lv_at hl 0 rfl) ?_
            refine va_get (D := D) (ci := 7) (C := RX7) (T := TX7) (N := 23) hx hb hW inX7 hown hK hP 0 rfl rfl 0 (by decide) (hW _ (wa tw550 rfl)) (fun _ h9 => h9) rfl dX7_spread_63 ?_
            refine lv_icmp_ge (tgt := 118) hx hb dX7_spread_66 (by decide) (fun c_5 => ?_) (fun c_5 => ?_)
            · have e_x : x = sqL Z w N 0 0 := h60_1
              subst e_x
              refine lv_lload hx hb dX7_spread_118 (lv_at hl 4 rfl) ?_
              refine lv_aload_n hx hb dX7_spread_120 rfl (lv_at hl 0 rfl) ?_
              refine va_get (D := D) (ci := 7) (C := RX7) (T := TX7) (N := 23) hx hb hW inX7 hown hK hP 0 rfl rfl 17 (by decide) (hW _ (wa tw567 rfl)) (fun _ h9 => h9) rfl dX7_spread_121 ?_
              refine lv_lmul hx hb dX7_spread_124 ?_
              refine lv_lstore (lv' := [(6, .long ((sqL Z w N 0 0) * ((f7_findFit (Z 0) (Z 1) Y model w (f7_counting Z N) (ntOf model) N) 5 0))), (0, .ref (a 0)), (1, .int model), (2, .int (nI w)), (3, .int what), (4, .long (sqL Z w N 0 0))]) hx hb dX7_spread_125 hl (by decide) rfl (fun ls hl => ?_)
              refine lv_iconst (v := 0) hx hb dX7_spread_127 (by decide) ?_
              refine lv_istore (lv' := [(8, .int 0), (6, .long ((sqL Z w N 0 0) * ((f7_findFit (Z 0) (Z 1) Y model w (f7_counting Z N) (ntOf model) N) 5 0))), (0, .ref (a 0)), (1, .int model), (2, .int (nI w)), (3, .int what), (4, .long (sqL Z w N 0 0))]) hx hb dX7_spread_128 hl (by decide) rfl (fun ls hl => ?_)
              obtain ⟨n130, t, x, hinv⟩ : ∃ (n130 : Nat) (t : Nat) (x : Int64), (t + n130 = 3) ∧ (spL ((f7_findFit (Z 0) (Z 1) Y model w (f7_counting Z N) (ntOf model) N) 3) ((f7_findFit (Z 0) (Z 1) Y model w (f7_counting Z N) (ntOf model) N) 2) n130 t x = spL ((f7_findFit (Z 0) (Z 1) Y model w (f7_counting Z N) (ntOf model) N) 3) ((f7_findFit (Z 0) (Z 1) Y model w (f7_counting Z N) (ntOf model) N) 2) 3 0 (sqL Z w N 0 0 * (f7_findFit (Z 0) (Z 1) Y model w (f7_counting Z N) (ntOf model) N) 5 0)) ∧ lv_has ls 9 [(0, .ref (a 0)), (1, .int model), (2, .int (nI w)), (3, .int what), (4, .long (sqL Z w N 0 0)), (6, .long x), (8, .int (nI t))] := ⟨3, 0, ((sqL Z w N 0 0) * ((f7_findFit (Z 0) (Z 1) Y model w (f7_counting Z N) (ntOf model) N) 5 0)), rfl, rfl, lv_sub hl [2, 3, 4, 5, 6, 1, 0] rfl⟩
              clear hl
              induction n130 generalizing t x ls with
              | zero =>
                obtain ⟨h130_0, h130_1, hl⟩ := hinv
                refine lv_iload hx hb dX7_spread_130 (lv_at hl 6 rfl) ?_
                refine lv_iconst (v := 3) hx hb dX7_spread_132 (by decide) ?_
                refine lv_icmp_ge (tgt := 162) hx hb dX7_spread_133 (by decide) (fun c_6 => ?_) (fun c_6 => ?_)
                · have e_x : x = spL ((f7_findFit (Z 0) (Z 1) Y model w (f7_counting Z N) (ntOf model) N) 3) ((f7_findFit (Z 0) (Z 1) Y model w (f7_counting Z N) (ntOf model) N) 2) 3 0 (sqL Z w N 0 0 * (f7_findFit (Z 0) (Z 1) Y model w (f7_counting Z N) (ntOf model) N) 5 0) := h130_1
                  subst e_x
                  refine lv_lload hx hb dX7_spread_162 (lv_at hl 5 rfl) ?_
                  refine lv_aload_n hx hb dX7_spread_164 rfl (lv_at hl 0 rfl) ?_
                  refine va_get (D := D) (ci := 7) (C := RX7) (T := TX7) (N := 23) hx hb hW inX7 hown hK hP 0 rfl rfl 17 (by decide) (hW _ (wa tw567 rfl)) (fun _ h9 => h9) rfl dX7_spread_165 ?_
                  refine lv_iload_n hx hb dX7_spread_168 rfl (lv_at hl 3 rfl) ?_
                  refine xrl (r := f7_share (spL ((f7_findFit (Z 0) (Z 1) Y model w (f7_counting Z N) (ntOf model) N) 3) ((f7_findFit (Z 0) (Z 1) Y model w (f7_counting Z N) (ntOf model) N) 2) 3 0 (sqL Z w N 0 0 * (f7_findFit (Z 0) (Z 1) Y model w (f7_counting Z N) (ntOf model) N) 5 0)) ((f7_findFit (Z 0) (Z 1) Y model w (f7_counting Z N) (ntOf model) N) 5 0) what) (rS (As := [.long (spL ((f7_findFit (Z 0) (Z 1) Y model w (f7_counting Z N) (ntOf model) N) 3) ((f7_findFit (Z 0) (Z 1) Y model w (f7_counting Z N) (ntOf model) N) 2) 3 0 (sqL Z w N 0 0 * (f7_findFit (Z 0) (Z 1) Y model w (f7_counting Z N) (ntOf model) N) 5 0)), .long ((f7_findFit (Z 0) (Z 1) Y model w (f7_counting Z N) (ntOf model) N) 5 0), .int what]) (n := 3) (rest := []) ⟨hx, hb, hml, hown, hW⟩ (kX7_share l (spL ((f7_findFit (Z 0) (Z 1) Y model w (f7_counting Z N) (ntOf model) N) 3) ((f7_findFit (Z 0) (Z 1) Y model w (f7_counting Z N) (ntOf model) N) 2) 3 0 (sqL Z w N 0 0 * (f7_findFit (Z 0) (Z 1) Y model w (f7_counting Z N) (ntOf model) N) 5 0)) ((f7_findFit (Z 0) (Z 1) Y model w (f7_counting Z N) (ntOf model) N) 5 0) what c_4) (wa tw707 rfl) (wa tw705 rfl) (wa tw706 rfl) (wa tw8 rfl) (by decide +kernel) ⟨Nat.le_of_ble_eq_true rfl, Nat.le_of_ble_eq_true rfl⟩ pS0 hl.1 rfl (Nat.le_of_ble_eq_true rfl) dX7_spread_169 ⟨Nat.le_of_ble_eq_true rfl, Nat.le_of_ble_eq_true rfl⟩ rfl rfl rfl) ?_
                  have hb_0 : (f7_spread_Y Z Y N model (nI w) what) = f7_findFit (Z 0) (Z 1) Y model w (f7_counting Z N) (ntOf model) N := (by simp only [f7_spread, f7_spread_Y, if_neg c_1, if_neg c_2, if_neg c_3, if_neg c_4, hix_w])
                  have hP9 : va_P D vwCl ((wZ a C Z (f7_spread_Y Z Y N model (nI w) what))) H := by rw [hb_0]; exact hP
                  have hD9 : va_D A ((wZ a C Z (f7_spread_Y Z Y N model (nI w) what))) := by rw [hb_0]; exact hD
                  exact W.lret (v := f7_share (spL ((f7_findFit (Z 0) (Z 1) Y model w (f7_counting Z N) (ntOf model) N) 3) ((f7_findFit (Z 0) (Z 1) Y model w (f7_counting Z N) (ntOf model) N) 2) 3 0 (sqL Z w N 0 0 * (f7_findFit (Z 0) (Z 1) Y model w (f7_counting Z N) (ntOf model) N) 5 0)) ((f7_findFit (Z 0) (Z 1) Y model w (f7_counting Z N) (ntOf model) N) 5 0) what) hx hb hr (fun t ht _ => ⟨⟨_, (), rfl, (by simp only [f7_spread, f7_spread_Y, if_neg c_1, if_neg c_2, if_neg c_3, if_neg c_4, hix_w]), ⟨by rw [ht]; exact hP9, by rw [hAe]; exact hD9⟩⟩, hS.F ht⟩) hS.2.2 dX7_spread_172
                · exact absurd (q_le (nI_lit 3) rfl (by omega) (by omega)) c_6
              | succ n130 ih130 =>
                obtain ⟨h130_0, h130_1, hl⟩ := hinv
                refine lv_iload hx hb dX7_spread_130 (lv_at hl 6 rfl) ?_
                refine lv_iconst (v := 3) hx hb dX7_spread_132 (by decide) ?_
                refine lv_icmp_ge (tgt := 162) hx hb dX7_spread_133 (by decide) (fun c_7 => ?_) (fun c_7 => ?_)
                · exact absurd c_7 (q_nle (nI_lit 3) rfl (by omega) (by omega))
                · refine lv_lload hx hb dX7_spread_136 (lv_at hl 5 rfl) ?_
                  refine lv_aload_n hx hb dX7_spread_138 rfl (lv_at hl 0 rfl) ?_
                  refine va_get (D := D) (ci := 7) (C := RX7) (T := TX7) (N := 23) hx hb hW inX7 hown hK hP 0 rfl rfl 19 (by decide) (hW _ (wa tw569 rfl)) (fun _ h9 => h9) rfl dX7_spread_139 ?_
                  refine lv_iload hx hb dX7_spread_142 (lv_at hl 6 rfl) ?_
                  refine xlald hx hb hK hP 14 rfl t rfl (by omega) (by decide) dX7_spread_144 ?_
                  refine lv_aload_n hx hb dX7_spread_145 rfl (lv_at hl 0 rfl) ?_
                  refine va_get (D := D) (ci := 7) (C := RX7) (T := TX7) (N := 23) hx hb hW inX7 hown hK hP 0 rfl rfl 18 (by decide) (hW _ (wa tw568 rfl)) (fun _ h9 => h9) rfl dX7_spread_146 ?_
                  refine lv_iload hx hb dX7_spread_149 (lv_at hl 6 rfl) ?_
                  refine xlald hx hb hK hP 13 rfl t rfl (by omega) (by decide) dX7_spread_151 ?_
                  refine lv_lmul hx hb dX7_spread_152 ?_
                  refine lv_lsub hx hb dX7_spread_153 ?_
                  refine lv_lstore (lv' := [(6, .long (x - ((((f7_findFit (Z 0) (Z 1) Y model w (f7_counting Z N) (ntOf model) N) 3) t) * (((f7_findFit (Z 0) (Z 1) Y model w (f7_counting Z N) (ntOf model) N) 2) t)))), (0, .ref (a 0)), (1, .int model), (2, .int (nI w)), (3, .int what), (4, .long (sqL Z w N 0 0)), (8, .int (nI t))]) hx hb dX7_spread_154 hl (by decide) rfl (fun ls hl => ?_)
                  refine lv_iinc (v := nI t + 1) (lv' := [(8, .int (nI t + 1)), (6, .long (x - ((((f7_findFit (Z 0) (Z 1) Y model w (f7_counting Z N) (ntOf model) N) 3) t) * (((f7_findFit (Z 0) (Z 1) Y model w (f7_counting Z N) (ntOf model) N) 2) t)))), (0, .ref (a 0)), (1, .int model), (2, .int (nI w)), (3, .int what), (4, .long (sqL Z w N 0 0))]) hx hb dX7_spread_156 hl (k := 6) rfl rfl (by decide) rfl (fun ls hl => ?_)
                  refine lv_goto (tgt := 130) hx hb dX7_spread_159 (by decide) ?_
                  rw [nI_1] at hl
                  exact ih130 (t := t + 1) (x := (x - ((((f7_findFit (Z 0) (Z 1) Y model w (f7_counting Z N) (ntOf model) N) 3) t) * (((f7_findFit (Z 0) (Z 1) Y model w (f7_counting Z N) (ntOf model) N) 2) t)))) (ls := ls) ⟨by omega, h130_1, lv_sub hl [2, 3, 4, 5, 6, 1, 0] rfl⟩
            · exact absurd (q_le hN rfl (by omega) (by omega)) c_5
          | succ n60 ih60 =>
            obtain ⟨h60_0, h60_1, hl⟩ := hinv
            refine lv_iload hx hb dX7_spread_60 (lv_at hl 5 rfl) ?_
            refine lv_aload_n hx hb dX7_spread_62 rfl (lv_at hl 0 rfl) ?_
            refine va_get (D := D) (ci := 7) (C := RX7) (T := TX7) (N := 23) hx hb hW inX7 hown hK hP 0 rfl rfl 0 (by decide) (hW _ (wa tw550 rfl)) (fun _ h9 => h9) rfl dX7_spread_63 ?_
            refine lv_icmp_ge (tgt := 118) hx hb dX7_spread_66 (by decide) (fun c_8 => ?_) (fun c_8 => ?_)
            · exact absurd c_8 (q_nle hN rfl (by omega) (by omega))
            · refine lv_lload hx hb dX7_spread_69 (lv_at hl 4 rfl) ?_
              refine lv_aload_n hx hb dX7_spread_71 rfl (lv_at hl 0 rfl) ?_
              refine lv_iload hx hb dX7_spread_72 (lv_at hl 5 rfl) ?_
              refine xri (r := f7_counts Z j) (rV (As := [.int (nI j)]) (n := 1) (rest := [.long x]) ⟨hx, hb, hml, hown, hW⟩ (kX7_counts l D C a Z (f7_findFit (Z 0) (Z 1) Y model w (f7_counting Z N) (ntOf model) N) j (by omega)) (wa tw664 rfl) (wa tw661 rfl) (wa tw663 rfl) (was ts39 rfl) (wa tw8 rfl) (by decide +kernel) ⟨Nat.le_of_ble_eq_true rfl, Nat.le_of_ble_eq_true rfl⟩ (pVr hP hK hNw 0 rfl rfl) hl.1 rfl (Nat.le_of_ble_eq_true rfl) dX7_spread_74 ⟨Nat.le_of_ble_eq_true rfl, Nat.le_of_ble_eq_true rfl⟩ rfl rfl rfl) ?_
              refine lv_if_eq (tgt := 108) hx hb dX7_spread_77 (by decide) (fun c_9 => ?_) (fun c_9 => ?_)
              · refine lv_lconst (v := 0) hx hb dX7_spread_108 (by decide) ?_
                refine lv_ladd hx hb dX7_spread_109 ?_
                refine lv_lstore (lv' := [(4, .long (x + 0)), (0, .ref (a 0)), (1, .int model), (2, .int (nI w)), (3, .int what), (6, .int (nI j))]) hx hb dX7_spread_110 hl (by decide) rfl (fun ls hl => ?_)
                refine lv_iinc (v := nI j + 1) (lv' := [(6, .int (nI j + 1)), (4, .long (x + 0)), (0, .ref (a 0)), (1, .int model), (2, .int (nI w)), (3, .int what)]) hx hb dX7_spread_112 hl (k := 5) rfl rfl (by decide) rfl (fun ls hl => ?_)
                refine lv_goto (tgt := 60) hx hb dX7_spread_115 (by decide) ?_
                rw [nI_1] at hl
                exact ih60 (j := j + 1) (x := (x + 0)) (ls := ls) ⟨by omega, by rw [← h60_1, sqL, if_pos c_9], lv_sub hl [2, 3, 4, 5, 1, 0] rfl⟩
              · refine lv_aload_n hx hb dX7_spread_80 rfl (lv_at hl 0 rfl) ?_
                refine va_get (D := D) (ci := 7) (C := RX7) (T := TX7) (N := 23) hx hb hW inX7 hown hK hP 0 rfl rfl 2 (by decide) (hW _ (wa tw552 rfl)) (fun _ h9 => h9) rfl dX7_spread_81 ?_
                refine lv_iconst (v := 2) hx hb dX7_spread_84 (by decide) ?_
                refine lv_iload hx hb dX7_spread_85 (lv_at hl 5 rfl) ?_
                refine lv_imul hx hb dX7_spread_87 ?_
                refine lv_iload_n hx hb dX7_spread_88 rfl (lv_at hl 2 rfl) ?_
                refine lv_iadd hx hb dX7_spread_89 ?_
                refine xiald hx hb hK hP 2 rfl ((2 * j) + w) (q_add (q_mul (nI_lit 2) rfl) rfl) (by omega) (by decide) dX7_spread_90 ?_
                refine lv_i2l (v := ((Z 1) ((2 * j) + w)).toInt64) hx hb dX7_spread_91 rfl ?_
                refine lv_aload_n hx hb dX7_spread_92 rfl (lv_at hl 0 rfl) ?_
                refine va_get (D := D) (ci := 7) (C := RX7) (T := TX7) (N := 23) hx hb hW inX7 hown hK hP 0 rfl rfl 2 (by decide) (hW _ (wa tw552 rfl)) (fun _ h9 => h9) rfl dX7_spread_93 ?_
                refine lv_iconst (v := 2) hx hb dX7_spread_96 (by decide) ?_
                refine lv_iload hx hb dX7_spread_97 (lv_at hl 5 rfl) ?_
                refine lv_imul hx hb dX7_spread_99 ?_
                refine lv_iload_n hx hb dX7_spread_100 rfl (lv_at hl 2 rfl) ?_
                refine lv_iadd hx hb dX7_spread_101 ?_
                refine xiald hx hb hK hP 2 rfl ((2 * j) + w) (q_add (q_mul (nI_lit 2) rfl) rfl) (by omega) (by decide) dX7_spread_102 ?_
                refine lv_i2l (v := ((Z 1) ((2 * j) + w)).toInt64) hx hb dX7_spread_103 rfl ?_
                refine lv_lmul hx hb dX7_spread_104 ?_
                refine lv_goto (tgt := 109) hx hb dX7_spread_105 (by decide) ?_
                refine lv_ladd hx hb dX7_spread_109 ?_
                refine lv_lstore (lv' := [(4, .long (x + ((((Z 1) ((2 * j) + w)).toInt64) * (((Z 1) ((2 * j) + w)).toInt64)))), (0, .ref (a 0)), (1, .int model), (2, .int (nI w)), (3, .int what), (6, .int (nI j))]) hx hb dX7_spread_110 hl (by decide) rfl (fun ls hl => ?_)
                refine lv_iinc (v := nI j + 1) (lv' := [(6, .int (nI j + 1)), (4, .long (x + ((((Z 1) ((2 * j) + w)).toInt64) * (((Z 1) ((2 * j) + w)).toInt64)))), (0, .ref (a 0)), (1, .int model), (2, .int (nI w)), (3, .int what)]) hx hb dX7_spread_112 hl (k := 5) rfl rfl (by decide) rfl (fun ls hl => ?_)
                refine lv_goto (tgt := 60) hx hb dX7_spread_115 (by decide) ?_
                rw [nI_1] at hl
                exact ih60 (j := j + 1) (x := (x + ((((Z 1) ((2 * j) + w)).toInt64) * (((Z 1) ((2 * j) + w)).toInt64)))) (ls := ls) ⟨by omega, by rw [← h60_1, sqL, if_neg c_9], lv_sub hl [2, 3, 4, 5, 1, 0] rfl⟩
        · refine lv_ldc2 hx hb hown (hW _ (wa tw704 rfl)) dX7_spread_50 ?_
          have hb_0 : (f7_spread_Y Z Y N model (nI w) what) = f7_findFit (Z 0) (Z 1) Y model w (f7_counting Z N) (ntOf model) N := (by simp only [f7_spread, f7_spread_Y, if_neg c_1, if_neg c_2, if_neg c_3, if_pos c_4, hix_w])
          have hP9 : va_P D vwCl ((wZ a C Z (f7_spread_Y Z Y N model (nI w) what))) H := by rw [hb_0]; exact hP
          have hD9 : va_D A ((wZ a C Z (f7_spread_Y Z Y N model (nI w) what))) := by rw [hb_0]; exact hD
          exact W.lret (v := (-100003)) hx hb hr (fun t ht _ => ⟨⟨_, (), rfl, (by simp only [f7_spread, f7_spread_Y, if_neg c_1, if_neg c_2, if_neg c_3, if_pos c_4, hix_w]), ⟨by rw [ht]; exact hP9, by rw [hAe]; exact hD9⟩⟩, hS.F ht⟩) hS.2.2 dX7_spread_53
      · refine lv_ldc2 hx hb hown (hW _ (wa tw680 rfl)) dX7_spread_27 ?_
        have hb_0 : (f7_spread_Y Z Y N model (nI w) what) = Y := (by simp only [f7_spread, f7_spread_Y, if_neg c_1, if_neg c_2, if_pos c_3, hix_w])
        have hP9 : va_P D vwCl ((wZ a C Z (f7_spread_Y Z Y N model (nI w) what))) s.heap := by rw [hb_0]; exact hP
        have hD9 : va_D A ((wZ a C Z (f7_spread_Y Z Y N model (nI w) what))) := by rw [hb_0]; exact hD
        exact W.lret (v := (-100002)) hx hb hr (fun t ht _ => ⟨⟨_, (), rfl, (by simp only [f7_spread, f7_spread_Y, if_neg c_1, if_neg c_2, if_pos c_3, hix_w]), ⟨by rw [ht]; exact hP9, by rw [hAe]; exact hD9⟩⟩, hS.F ht⟩) hS.2.2 dX7_spread_30
