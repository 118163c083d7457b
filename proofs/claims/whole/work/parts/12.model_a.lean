abbrev wZ (a : Nat → Nat) (C : Nat → ClassId) (Z : Nat → Nat → Int32) (Y : Nat → Nat → Int64) : va_W := [((a 0), .inr (7, [.int (Z 12 0), .ref (a 1), .ref (a 2), .ref (a 3), .ref (a 4), .int (Z 12 1), .ref (a 5), .ref (a 6), .ref (a 7), .ref (a 8), .ref (a 9), .int (Z 12 2), .ref (a 10), .int (Z 12 3), .int (Z 12 4), .ref (a 11), .ref (a 12), .long (Y 5 0), .ref (a 13), .ref (a 14), .ref (a 15), .ref (a 16), .ref (a 17)])), ((a 1), eI C 48 (Z 0)), ((a 2), eI C 24 (Z 1)), ((a 3), eZ C 12 (Z 2)), ((a 4), eZ C 12 (Z 3)), ((a 5), eI C 60 (Z 4)), ((a 6), eI C 60 (Z 5)), ((a 7), eI C 60 (Z 6)), ((a 8), eZ C 60 (Z 7)), ((a 9), eZ C 244 (Z 8)), ((a 10), eI C 24 (Z 9)), ((a 11), eJ C 9 (Y 0)), ((a 12), eJ C 9 (Y 1)), ((a 13), eJ C 3 (Y 2)), ((a 14), eJ C 3 (Y 3)), ((a 15), eJ C 12 (Y 4)), ((a 16), eI C 6 (Z 10)), ((a 17), eI C 4 (Z 11))]
abbrev wM (am : Nat → Nat) (C : Nat → ClassId) (M : Nat → Nat → Int32) : va_W := [((am 0), .inr (2, [.ref (am 1), .ref (am 2), .ref (am 3), .ref (am 4), .ref (am 5), .int (M 6 0), .int (M 6 1), .int (M 6 2)])), ((am 1), eI C 12 (M 0)), ((am 2), eI C 12 (M 1)), ((am 3), eI C 12 (M 2)), ((am 4), eI C 12 (M 3)), ((am 5), eII C 2 (rr am 6 2)), ((am 6), eI C 12 (M 4)), ((am 7), eI C 12 (M 5))]
abbrev wT (tq : Nat) (C : Nat → ClassId) (T : Nat → Int64) : va_W := [(tq, .inr (5, [.long (T 0), .long (T 1), .long (T 2), .long (T 3), .long (T 4), .long (T 5), .long (T 6), .long (T 7), .long (T 8), .long (T 9), .long (T 10), .long (T 11), .long (T 12)]))]
abbrev wF (af : Nat → Nat) (C : Nat → ClassId) (F : Nat → Nat → Int64) (fm : Int32) : va_W := [((af 0), .inr (1, [.ref (af 1), .ref (af 2), .ref (af 5), .int fm])), ((af 1), .inr (5, [.long (F 0 0), .long (F 0 1), .long (F 0 2), .long (F 0 3), .long (F 0 4), .long (F 0 5), .long (F 0 6), .long (F 0 7), .long (F 0 8), .long (F 0 9), .long (F 0 10), .long (F 0 11), .long (F 0 12)])), ((af 2), eJJ C 2 (rr af 3 2)), ((af 3), eJ C 4 (F 1)), ((af 4), eJ C 4 (F 2)), ((af 5), eJJ C 2 (rr af 6 2)), ((af 6), eJ C 3 (F 3)), ((af 7), eJ C 3 (F 4))]
abbrev wP (ap : Nat → Nat) (C : Nat → ClassId) (Pt : Nat → Nat → Int64) (pi : Nat → Int32) : va_W := [((ap 0), .inr (3, [.ref (ap 1), .int (pi 0), .int (pi 1), .long (Pt 1 0), .long (Pt 1 1)])), ((ap 1), .inr (5, [.long (Pt 0 0), .long (Pt 0 1), .long (Pt 0 2), .long (Pt 0 3), .long (Pt 0 4), .long (Pt 0 5), .long (Pt 0 6), .long (Pt 0 7), .long (Pt 0 8), .long (Pt 0 9), .long (Pt 0 10), .long (Pt 0 11), .long (Pt 0 12)]))]
abbrev wB (ab : Nat → Nat) (C : Nat → ClassId) (Bk : Nat → Nat → Int32) : va_W := [((ab 0), .inr (0, [.ref (ab 1), .ref (ab 2), .ref (ab 3), .ref (ab 4), .ref (ab 5), .int (Bk 8 0), .int (Bk 8 1)])), ((ab 1), eI C 60 (Bk 0)), ((ab 2), eI C 60 (Bk 1)), ((ab 3), eI C 60 (Bk 2)), ((ab 4), eZ C 60 (Bk 3)), ((ab 5), eII C 4 (rr ab 6 4)), ((ab 6), eI C 61 (Bk 4)), ((ab 7), eI C 61 (Bk 5)), ((ab 8), eI C 61 (Bk 6)), ((ab 9), eI C 61 (Bk 7))]
abbrev wR (ar : Nat → Nat) (C : Nat → ClassId) (Rt : Nat → Nat → Int32) : va_W := [((ar 0), .inr (4, [.ref (ar 1), .ref (ar 6), .ref (ar 7), .ref (ar 8), .int (Rt 7 0), .int (Rt 7 1), .int (Rt 7 2)])), ((ar 1), eII C 4 (rr ar 2 4)), ((ar 2), eI C 6 (Rt 0)), ((ar 3), eI C 6 (Rt 1)), ((ar 4), eI C 6 (Rt 2)), ((ar 5), eI C 6 (Rt 3)), ((ar 6), eI C 6 (Rt 4)), ((ar 7), eI C 6 (Rt 5)), ((ar 8), eI C 4 (Rt 6))]
abbrev wX (ax am af ap ab ar : Nat → Nat) : va_W := [((ax 0), .inr (6, [.ref (am 0), .ref (af 0), .ref (ap 0), .ref (ab 0), .ref (ar 0)]))]
def f7_counts (Z : Nat → Nat → Int32) (k : Nat) : Int32 := (if ((Z 2) k) = 0 then (if ((Z 3) k) = 0 then (1) else (0)) else (0))
set_option maxHeartbeats 4000000 in
set_option maxRecDepth 100000 in
theorem kX7_counts (l : Launch) (D : va_G) (C : Nat → ClassId) (a : Nat → Nat) (Z : Nat → Nat → Int32) (Y : Nat → Nat → Int64) (k : Nat) (hk : k < 12) : Ri l D C yX7_counts cX7_counts 2 .boolean 0 [.ref (a 0), .int (nI k)] (wZ a C Z Y) (f7_counts Z k) := by
  refine Met.ofW (cc := cX7_counts) (maxL := 2) (ret := (some .boolean)) (by decide) rfl ?_
  intro p e s m args below meth c s₁ B hml hv
  obtain ⟨rfl, hP, hK, hNw⟩ := hv
  have hx := B.exec
  have hb := B.bytes
  have hr := B.returns
  have hts := atoms_spec (ws := wm yX7_counts cX7_counts 2 (some .boolean)) B.pre
  have hown : s.vm.findClass RX7 = some m.cls := findClass_of_methodNamed B.named
  have hlocks := B.notSynchronized
  have hW : ∀ w ∈ WA, w.before _ s = true := fun w h => hts w (List.mem_cons_of_mem _ h)
  have hP : va_P D vwCl [((a 0), .inr (7, [.int (Z 12 0), .ref (a 1), .ref (a 2), .ref (a 3), .ref (a 4), .int (Z 12 1), .ref (a 5), .ref (a 6), .ref (a 7), .ref (a 8), .ref (a 9), .int (Z 12 2), .ref (a 10), .int (Z 12 3), .int (Z 12 4), .ref (a 11), .ref (a 12), .long (Y 5 0), .ref (a 13), .ref (a 14), .ref (a 15), .ref (a 16), .ref (a 17)])), ((a 1), eI C 48 (Z 0)), ((a 2), eI C 24 (Z 1)), ((a 3), eZ C 12 (Z 2)), ((a 4), eZ C 12 (Z 3)), ((a 5), eI C 60 (Z 4)), ((a 6), eI C 60 (Z 5)), ((a 7), eI C 60 (Z 6)), ((a 8), eZ C 60 (Z 7)), ((a 9), eZ C 244 (Z 8)), ((a 10), eI C 24 (Z 9)), ((a 11), eJ C 9 (Y 0)), ((a 12), eJ C 9 (Y 1)), ((a 13), eJ C 3 (Y 2)), ((a 14), eJ C 3 (Y 3)), ((a 15), eJ C 12 (Y 4)), ((a 16), eI C 6 (Z 10)), ((a 17), eI C 4 (Z 11))] s.heap := hP
  have hl := lv_entry ([.ref (a 0), .int (nI k)]) (n := 2) (Nat.le_of_ble_eq_true rfl)
  rw [lg_entry_eq]
  generalize (lg_sl ([.ref (a 0), .int (nI k)]) ++ List.replicate (2 - (lg_sl ([.ref (a 0), .int (nI k)])).length) Slot.unset).toArray = ls at hl ⊢
  have hl : lv_has ls 2 [(0, .ref (a 0)), (1, .int (nI k))] := hl
  refine lv_aload_n hx hb dX7_counts_0 rfl (lv_at hl 0 rfl) ?_
  refine va_get (D := D) (ci := 7) (C := RX7) (T := TX7) (N := 23) hx hb hW inX7 hown hK hP 0 rfl rfl 3 (by decide) (hW _ (wa tw553 rfl)) (fun _ h9 => h9) rfl dX7_counts_1 ?_
  refine lv_iload_n hx hb dX7_counts_4 rfl (lv_at hl 1 rfl) ?_
  refine xzald hx hb hK hP 3 rfl k rfl (by omega) (by decide) dX7_counts_5 ?_
  refine lv_if_ne (tgt := 22) hx hb dX7_counts_6 (by decide) (fun c_1 => ?_) (fun c_1 => ?_)
  · refine lv_iconst (v := 0) hx hb dX7_counts_22 (by decide) ?_
    exact W.zret (v := 0) hx hb hr rfl (fun t ht _ => ⟨_, rfl, (by simp only [f7_counts, if_neg c_1]), ht⟩) (fun q h => by cases h) dX7_counts_23
  · refine lv_aload_n hx hb dX7_counts_9 rfl (lv_at hl 0 rfl) ?_
    refine va_get (D := D) (ci := 7) (C := RX7) (T := TX7) (N := 23) hx hb hW inX7 hown hK hP 0 rfl rfl 4 (by decide) (hW _ (wa tw554 rfl)) (fun _ h9 => h9) rfl dX7_counts_10 ?_
    refine lv_iload_n hx hb dX7_counts_13 rfl (lv_at hl 1 rfl) ?_
    refine xzald hx hb hK hP 4 rfl k rfl (by omega) (by decide) dX7_counts_14 ?_
    refine lv_if_ne (tgt := 22) hx hb dX7_counts_15 (by decide) (fun c_2 => ?_) (fun c_2 => ?_)
    · refine lv_iconst (v := 0) hx hb dX7_counts_22 (by decide) ?_
      exact W.zret (v := 0) hx hb hr rfl (fun t ht _ => ⟨_, rfl, (by simp only [f7_counts, if_pos c_1, if_neg c_2]), ht⟩) (fun q h => by cases h) dX7_counts_23
    · refine lv_iconst (v := 1) hx hb dX7_counts_18 (by decide) ?_
      refine lv_goto (tgt := 23) hx hb dX7_counts_19 (by decide) ?_
      exact W.zret (v := 1) hx hb hr rfl (fun t ht _ => ⟨_, rfl, (by simp only [f7_counts, if_pos c_1, if_pos c_2]), ht⟩) (fun q h => by cases h) dX7_counts_23

def f7_isMark (Z : Nat → Nat → Int32) (x : Int32) : Int32 := (f7_in x.toInt64 0 (((Z 12 0) - 1).toInt64))
set_option maxHeartbeats 4000000 in
set_option maxRecDepth 100000 in
theorem kX7_isMark (l : Launch) (D : va_G) (C : Nat → ClassId) (a : Nat → Nat) (Z : Nat → Nat → Int32) (Y : Nat → Nat → Int64) (x : Int32)  : Ri l D C yX7_isMark cX7_isMark 2 .boolean 1 [.ref (a 0), .int x] (wZ a C Z Y) (f7_isMark Z x) := by
  refine Met.ofW (cc := cX7_isMark) (maxL := 2) (ret := (some .boolean)) (by decide) rfl ?_
  intro p e s m args below meth c s₁ B hml hv
  obtain ⟨rfl, hP, hK, hNw⟩ := hv
  have hx := B.exec
  have hb := B.bytes
  have hr := B.returns
  have hts := atoms_spec (ws := wm yX7_isMark cX7_isMark 2 (some .boolean)) B.pre
  have hown : s.vm.findClass RX7 = some m.cls := findClass_of_methodNamed B.named
  have hlocks := B.notSynchronized
  have hW : ∀ w ∈ WA, w.before _ s = true := fun w h => hts w (List.mem_cons_of_mem _ h)
  have hP : va_P D vwCl [((a 0), .inr (7, [.int (Z 12 0), .ref (a 1), .ref (a 2), .ref (a 3), .ref (a 4), .int (Z 12 1), .ref (a 5), .ref (a 6), .ref (a 7), .ref (a 8), .ref (a 9), .int (Z 12 2), .ref (a 10), .int (Z 12 3), .int (Z 12 4), .ref (a 11), .ref (a 12), .long (Y 5 0), .ref (a 13), .ref (a 14), .ref (a 15), .ref (a 16), .ref (a 17)])), ((a 1), eI C 48 (Z 0)), ((a 2), eI C 24 (Z 1)), ((a 3), eZ C 12 (Z 2)), ((a 4), eZ C 12 (Z 3)), ((a 5), eI C 60 (Z 4)), ((a 6), eI C 60 (Z 5)), ((a 7), eI C 60 (Z 6)), ((a 8), eZ C 60 (Z 7)), ((a 9), eZ C 244 (Z 8)), ((a 10), eI C 24 (Z 9)), ((a 11), eJ C 9 (Y 0)), ((a 12), eJ C 9 (Y 1)), ((a 13), eJ C 3 (Y 2)), ((a 14), eJ C 3 (Y 3)), ((a 15), eJ C 12 (Y 4)), ((a 16), eI C 6 (Z 10)), ((a 17), eI C 4 (Z 11))] s.heap := hP
  have hl := lv_entry ([.ref (a 0), .int x]) (n := 2) (Nat.le_of_ble_eq_true rfl)
  rw [lg_entry_eq]
  generalize (lg_sl ([.ref (a 0), .int x]) ++ List.replicate (2 - (lg_sl ([.ref (a 0), .int x])).length) Slot.unset).toArray = ls at hl ⊢
  have hl : lv_has ls 2 [(0, .ref (a 0)), (1, .int x)] := hl
  refine lv_iload_n hx hb dX7_isMark_0 rfl (lv_at hl 1 rfl) ?_
  refine lv_i2l (v := x.toInt64) hx hb dX7_isMark_1 rfl ?_
  refine lv_lconst (v := 0) hx hb dX7_isMark_2 (by decide) ?_
  refine lv_aload_n hx hb dX7_isMark_3 rfl (lv_at hl 0 rfl) ?_
  refine va_get (D := D) (ci := 7) (C := RX7) (T := TX7) (N := 23) hx hb hW inX7 hown hK hP 0 rfl rfl 0 (by decide) (hW _ (wa tw550 rfl)) (fun _ h9 => h9) rfl dX7_isMark_4 ?_
  refine lv_iconst (v := 1) hx hb dX7_isMark_7 (by decide) ?_
  refine lv_isub hx hb dX7_isMark_8 ?_
  refine lv_i2l (v := ((Z 12 0) - 1).toInt64) hx hb dX7_isMark_9 rfl ?_
  refine xri (r := f7_in x.toInt64 0 (((Z 12 0) - 1).toInt64)) (rS (As := [.long x.toInt64, .long 0, .long (((Z 12 0) - 1).toInt64)]) (n := 3) (rest := []) ⟨hx, hb, hml, hown, hW⟩ (kX7_in l x.toInt64 0 (((Z 12 0) - 1).toInt64)) (wa tw628 rfl) (wa tw626 rfl) (wa tw627 rfl) (wa tw8 rfl) (by decide +kernel) ⟨Nat.le_of_ble_eq_true rfl, Nat.le_of_ble_eq_true rfl⟩ pS0 hl.1 rfl (Nat.le_of_ble_eq_true rfl) dX7_isMark_10 ⟨Nat.le_of_ble_eq_true rfl, Nat.le_of_ble_eq_true rfl⟩ rfl rfl rfl) ?_
  exact W.zret (v := f7_in x.toInt64 0 (((Z 12 0) - 1).toInt64)) hx hb hr (f7_in_z x.toInt64 0 (((Z 12 0) - 1).toInt64)) (fun t ht _ => ⟨_, rfl, (by simp only [f7_isMark]), ht⟩) (fun q h => by cases h) dX7_isMark_13

def cntL (Z : Nat → Nat → Int32) : Nat → Nat → Int32 → Int32
  | 0, _, acc => acc
  | n + 1, k, acc => cntL Z n (k + 1) (acc ||| (if f7_counts Z k = 0 then 0 else (1 : Int32) <<< (nI k &&& 31)))
def f7_counting (Z : Nat → Nat → Int32) (N : Nat) : Int32 := cntL Z N 0 0

set_option maxHeartbeats 4000000 in
set_option maxRecDepth 100000 in
theorem kX7_counting (l : Launch) (D : va_G) (C : Nat → ClassId) (a : Nat → Nat) (Z : Nat → Nat → Int32) (Y : Nat → Nat → Int64)  (N : Nat) (hN : Z 12 0 = nI N) (hN12 : N ≤ 12) : Ri l D C yX7_counting cX7_counting 3 .int 1 [.ref (a 0)] (wZ a C Z Y) (f7_counting Z N) := by
  refine Met.ofW (cc := cX7_counting) (maxL := 3) (ret := (some .int)) (by decide) rfl ?_
  intro p e s m args below meth c s₁ B hml hv
  obtain ⟨rfl, hP, hK, hNw⟩ := hv
  have hx := B.exec
  have hb := B.bytes
  have hr := B.returns
  have hts := atoms_spec (ws := wm yX7_counting cX7_counting 3 (some .int)) B.pre
  have hown : s.vm.findClass RX7 = some m.cls := findClass_of_methodNamed B.named
  have hlocks := B.notSynchronized
  have hW : ∀ w ∈ WA, w.before _ s = true := fun w h => hts w (List.mem_cons_of_mem _ h)
  have hP : va_P D vwCl [((a 0), .inr (7, [.int (Z 12 0), .ref (a 1), .ref (a 2), .ref (a 3), .ref (a 4), .int (Z 12 1), .ref (a 5), .ref (a 6), .ref (a 7), .ref (a 8), .ref (a 9), .int (Z 12 2), .ref (a 10), .int (Z 12 3), .int (Z 12 4), .ref (a 11), .ref (a 12), .long (Y 5 0), .ref (a 13), .ref (a 14), .ref (a 15), .ref (a 16), .ref (a 17)])), ((a 1), eI C 48 (Z 0)), ((a 2), eI C 24 (Z 1)), ((a 3), eZ C 12 (Z 2)), ((a 4), eZ C 12 (Z 3)), ((a 5), eI C 60 (Z 4)), ((a 6), eI C 60 (Z 5)), ((a 7), eI C 60 (Z 6)), ((a 8), eZ C 60 (Z 7)), ((a 9), eZ C 244 (Z 8)), ((a 10), eI C 24 (Z 9)), ((a 11), eJ C 9 (Y 0)), ((a 12), eJ C 9 (Y 1)), ((a 13), eJ C 3 (Y 2)), ((a 14), eJ C 3 (Y 3)), ((a 15), eJ C 12 (Y 4)), ((a 16), eI C 6 (Z 10)), ((a 17), eI C 4 (Z 11))] s.heap := hP
  have hl := lv_entry ([.ref (a 0)]) (n := 3) (Nat.le_of_ble_eq_true rfl)
  rw [lg_entry_eq]
  generalize (lg_sl ([.ref (a 0)]) ++ List.replicate (3 - (lg_sl ([.ref (a 0)])).length) Slot.unset).toArray = ls at hl ⊢
  have hl : lv_has ls 3 [(0, .ref (a 0))] := hl
  refine lv_iconst (v := 0) hx hb dX7_counting_0 (by decide) ?_
  refine lv_istore_n (lv' := [(1, .int 0), (0, .ref (a 0))]) hx hb dX7_counting_1 rfl hl (by decide) rfl (fun ls hl => ?_)
  refine lv_iconst (v := 0) hx hb dX7_counting_2 (by decide) ?_
  refine lv_istore_n (lv' := [(2, .int 0), (1, .int 0), (0, .ref (a 0))]) hx hb dX7_counting_3 rfl hl (by decide) rfl (fun ls hl => ?_)
  obtain ⟨n4, k, acc, hinv⟩ : ∃ (n4 : Nat) (k : Nat) (acc : Int32), (k + n4 = N) ∧ (cntL Z n4 k acc = f7_counting Z N) ∧ lv_has ls 3 [(0, .ref (a 0)), (1, .int acc), (2, .int (nI k))] := ⟨N, 0, 0, by omega, rfl, lv_sub hl [2, 1, 0] rfl⟩
  clear hl
  induction n4 generalizing k acc ls with
  | zero =>
    obtain ⟨h4_0, h4_1, hl⟩ := hinv
    refine lv_iload_n hx hb dX7_counting_4 rfl (lv_at hl 2 rfl) ?_
    refine lv_aload_n hx hb dX7_counting_5 rfl (lv_at hl 0 rfl) ?_
    refine va_get (D := D) (ci := 7) (C := RX7) (T := TX7) (N := 23) hx hb hW inX7 hown hK hP 0 rfl rfl 0 (by decide) (hW _ (wa tw550 rfl)) (fun _ h9 => h9) rfl dX7_counting_6 ?_
    refine lv_icmp_ge (tgt := 36) hx hb dX7_counting_9 (by decide) (fun c_1 => ?_) (fun c_1 => ?_)
    · refine lv_iload_n hx hb dX7_counting_36 rfl (lv_at hl 1 rfl) ?_
      exact W.iret (v := acc) hx hb hr (fun t ht _ => ⟨_, rfl, h4_1, ht⟩) (fun q h => by cases h) dX7_counting_37
    · exact absurd (q_le hN rfl (by omega) (by omega)) c_1
  | succ n4 ih4 =>
    obtain ⟨h4_0, h4_1, hl⟩ := hinv
    refine lv_iload_n hx hb dX7_counting_4 rfl (lv_at hl 2 rfl) ?_
    refine lv_aload_n hx hb dX7_counting_5 rfl (lv_at hl 0 rfl) ?_
    refine va_get (D := D) (ci := 7) (C := RX7) (T := TX7) (N := 23) hx hb hW inX7 hown hK hP 0 rfl rfl 0 (by decide) (hW _ (wa tw550 rfl)) (fun _ h9 => h9) rfl dX7_counting_6 ?_
    refine lv_icmp_ge (tgt := 36) hx hb dX7_counting_9 (by decide) (fun c_2 => ?_) (fun c_2 => ?_)
    · exact absurd c_2 (q_nle hN rfl (by omega) (by omega))
    · refine lv_iload_n hx hb dX7_counting_12 rfl (lv_at hl 1 rfl) ?_
      refine lv_aload_n hx hb dX7_counting_13 rfl (lv_at hl 0 rfl) ?_
      refine lv_iload_n hx hb dX7_counting_14 rfl (lv_at hl 2 rfl) ?_
      refine xri (r := f7_counts Z k) (rV (As := [.int (nI k)]) (n := 1) (rest := [.int acc]) ⟨hx, hb, hml, hown, hW⟩ (kX7_counts l D C a Z Y k (by omega)) (wa tw664 rfl) (wa tw661 rfl) (wa tw663 rfl) (was ts39 rfl) (wa tw8 rfl) (by decide +kernel) ⟨Nat.le_of_ble_eq_true rfl, Nat.le_of_ble_eq_true rfl⟩ (pVr hP hK hNw 0 rfl rfl) hl.1 rfl (Nat.le_of_ble_eq_true rfl) dX7_counting_15 ⟨Nat.le_of_ble_eq_true rfl, Nat.le_of_ble_eq_true rfl⟩ rfl rfl rfl) ?_
      refine lv_if_eq (tgt := 27) hx hb dX7_counting_18 (by decide) (fun c_3 => ?_) (fun c_3 => ?_)
      · refine lv_iconst (v := 0) hx hb dX7_counting_27 (by decide) ?_
        refine lv_ior hx hb dX7_counting_28 ?_
        refine lv_istore_n (lv' := [(1, .int (acc ||| 0)), (0, .ref (a 0)), (2, .int (nI k))]) hx hb dX7_counting_29 rfl hl (by decide) rfl (fun ls hl => ?_)
        refine lv_iinc (v := nI k + 1) (lv' := [(2, .int (nI k + 1)), (1, .int (acc ||| 0)), (0, .ref (a 0))]) hx hb dX7_counting_30 hl (k := 2) rfl rfl (by decide) rfl (fun ls hl => ?_)
        refine lv_goto (tgt := 4) hx hb dX7_counting_33 (by decide) ?_
        rw [nI_1] at hl
        exact ih4 (k := k + 1) (acc := (acc ||| 0)) (ls := ls) ⟨by omega, (by rw [← h4_1, cntL, if_pos c_3]), lv_sub hl [2, 1, 0] rfl⟩
      · refine lv_iconst (v := 1) hx hb dX7_counting_21 (by decide) ?_
        refine lv_iload_n hx hb dX7_counting_22 rfl (lv_at hl 2 rfl) ?_
        refine lv_ishl hx hb dX7_counting_23 ?_
        refine lv_goto (tgt := 28) hx hb dX7_counting_24 (by decide) ?_
        refine lv_ior hx hb dX7_counting_28 ?_
        refine lv_istore_n (lv' := [(1, .int (acc ||| ((1 : Int32) <<< ((nI k) &&& 31)))), (0, .ref (a 0)), (2, .int (nI k))]) hx hb dX7_counting_29 rfl hl (by decide) rfl (fun ls hl => ?_)
        refine lv_iinc (v := nI k + 1) (lv' := [(2, .int (nI k + 1)), (1, .int (acc ||| ((1 : Int32) <<< ((nI k) &&& 31)))), (0, .ref (a 0))]) hx hb dX7_counting_30 hl (k := 2) rfl rfl (by decide) rfl (fun ls hl => ?_)
        refine lv_goto (tgt := 4) hx hb dX7_counting_33 (by decide) ?_
        rw [nI_1] at hl
        exact ih4 (k := k + 1) (acc := (acc ||| ((1 : Int32) <<< ((nI k) &&& 31)))) (ls := ls) ⟨by omega, (by rw [← h4_1, cntL, if_neg c_3]), lv_sub hl [2, 1, 0] rfl⟩

def fiL (pl : Nat → Int32) (set : Int32) (j : Nat) : Nat → Nat → Int32 → Int32
  | 0, _, f => f
  | n + 1, k, f => fiL pl set j n (k + 1) (if f = 0 then 0 else if ((set >>> (nI k &&& 31)) &&& 1) = 1 then (if pl (4 * k) = pl (4 * j) then (if pl (4 * k + 1) = pl (4 * j + 1) then 0 else 1) else 1) else 1)
def foL (pl : Nat → Int32) (set : Int32) : Nat → Nat → Int32 → Int32
  | 0, _, acc => acc
  | n + 1, j, acc => foL pl set n (j + 1) (acc + (if fiL pl set j j 0 (if ((set >>> (nI j &&& 31)) &&& 1) = 1 then 1 else 0) = 0 then 0 else 1))
def f7_fieldsOf (pl : Nat → Int32) (N : Nat) (set : Int32) : Int32 := foL pl set N 0 0

set_option maxHeartbeats 4000000 in
set_option maxRecDepth 100000 in
theorem kX7_fieldsOf (l : Launch) (D : va_G) (C : Nat → ClassId) (a : Nat → Nat) (Z : Nat → Nat → Int32) (Y : Nat → Nat → Int64) (set : Int32) (N : Nat) (hN : Z 12 0 = nI N) (hN12 : N ≤ 12) : Ri l D C yX7_fieldsOf cX7_fieldsOf 6 .int 0 [.ref (a 0), .int set] (wZ a C Z Y) (f7_fieldsOf (Z 0) N set) := by
  refine Met.ofW (cc := cX7_fieldsOf) (maxL := 6) (ret := (some .int)) (by decide) rfl ?_
  intro p e s m args below meth c s₁ B hml hv
  obtain ⟨rfl, hP, hK, hNw⟩ := hv
  have hx := B.exec
  have hb := B.bytes
  have hr := B.returns
  have hts := atoms_spec (ws := wm yX7_fieldsOf cX7_fieldsOf 6 (some .int)) B.pre
  have hown : s.vm.findClass RX7 = some m.cls := findClass_of_methodNamed B.named
  have hlocks := B.notSynchronized
  have hW : ∀ w ∈ WA, w.before _ s = true := fun w h => hts w (List.mem_cons_of_mem _ h)
  have hP : va_P D vwCl [((a 0), .inr (7, [.int (Z 12 0), .ref (a 1), .ref (a 2), .ref (a 3), .ref (a 4), .int (Z 12 1), .ref (a 5), .ref (a 6), .ref (a 7), .ref (a 8), .ref (a 9), .int (Z 12 2), .ref (a 10), .int (Z 12 3), .int (Z 12 4), .ref (a 11), .ref (a 12), .long (Y 5 0), .ref (a 13), .ref (a 14), .ref (a 15), .ref (a 16), .ref (a 17)])), ((a 1), eI C 48 (Z 0)), ((a 2), eI C 24 (Z 1)), ((a 3), eZ C 12 (Z 2)), ((a 4), eZ C 12 (Z 3)), ((a 5), eI C 60 (Z 4)), ((a 6), eI C 60 (Z 5)), ((a 7), eI C 60 (Z 6)), ((a 8), eZ C 60 (Z 7)), ((a 9), eZ C 244 (Z 8)), ((a 10), eI C 24 (Z 9)), ((a 11), eJ C 9 (Y 0)), ((a 12), eJ C 9 (Y 1)), ((a 13), eJ C 3 (Y 2)), ((a 14), eJ C 3 (Y 3)), ((a 15), eJ C 12 (Y 4)), ((a 16), eI C 6 (Z 10)), ((a 17), eI C 4 (Z 11))] s.heap := hP
  have hl := lv_entry ([.ref (a 0), .int set]) (n := 6) (Nat.le_of_ble_eq_true rfl)
  rw [lg_entry_eq]
  generalize (lg_sl ([.ref (a 0), .int set]) ++ List.replicate (6 - (lg_sl ([.ref (a 0), .int set])).length) Slot.unset).toArray = ls at hl ⊢
  have hl : lv_has ls 6 [(0, .ref (a 0)), (1, .int set)] := hl
  refine lv_iconst (v := 0) hx hb dX7_fieldsOf_0 (by decide) ?_
  refine lv_istore_n (lv' := [(2, .int 0), (0, .ref (a 0)), (1, .int set)]) hx hb dX7_fieldsOf_1 rfl hl (by decide) rfl (fun ls hl => ?_)
  refine lv_iconst (v := 0) hx hb dX7_fieldsOf_2 (by decide) ?_
  refine lv_istore_n (lv' := [(3, .int 0), (2, .int 0), (0, .ref (a 0)), (1, .int set)]) hx hb dX7_fieldsOf_3 rfl hl (by decide) rfl (fun ls hl => ?_)
  obtain ⟨n4, j, acc, hinv⟩ : ∃ (n4 : Nat) (j : Nat) (acc : Int32), (j + n4 = N) ∧ (foL (Z 0) set n4 j acc = f7_fieldsOf (Z 0) N set) ∧ lv_has ls 6 [(0, .ref (a 0)), (1, .int set), (2, .int acc), (3, .int (nI j))] := ⟨N, 0, 0, by omega, rfl, lv_sub hl [2, 3, 1, 0] rfl⟩
  clear hl
  induction n4 generalizing j acc ls with
  | zero =>
    obtain ⟨h4_0, h4_1, hl⟩ := hinv
    refine lv_iload_n hx hb dX7_fieldsOf_4 rfl (lv_at hl 3 rfl) ?_
    refine lv_aload_n hx hb dX7_fieldsOf_5 rfl (lv_at hl 0 rfl) ?_
    refine va_get (D := D) (ci := 7) (C := RX7) (T := TX7) (N := 23) hx hb hW inX7 hown hK hP 0 rfl rfl 0 (by decide) (hW _ (wa tw550 rfl)) (fun _ h9 => h9) rfl dX7_fieldsOf_6 ?_
    refine lv_icmp_ge (tgt := 128) hx hb dX7_fieldsOf_9 (by decide) (fun c_1 => ?_) (fun c_1 => ?_)
    · refine lv_iload_n hx hb dX7_fieldsOf_128 rfl (lv_at hl 2 rfl) ?_
      exact W.iret (v := acc) hx hb hr (fun t ht _ => ⟨_, rfl, h4_1, ht⟩) (fun q h => by cases h) dX7_fieldsOf_129
    · exact absurd (q_le hN rfl (by omega) (by omega)) c_1
  | succ n4 ih4 =>
    obtain ⟨h4_0, h4_1, hl⟩ := hinv
    refine lv_iload_n hx hb dX7_fieldsOf_4 rfl (lv_at hl 3 rfl) ?_
    refine lv_aload_n hx hb dX7_fieldsOf_5 rfl (lv_at hl 0 rfl) ?_
    refine va_get (D := D) (ci := 7) (C := RX7) (T := TX7) (N := 23) hx hb hW inX7 hown hK hP 0 rfl rfl 0 (by decide) (hW _ (wa tw550 rfl)) (fun _ h9 => h9) rfl dX7_fieldsOf_6 ?_
    refine lv_icmp_ge (tgt := 128) hx hb dX7_fieldsOf_9 (by decide) (fun c_2 => ?_) (fun c_2 => ?_)
    · exact absurd c_2 (q_nle hN rfl (by omega) (by omega))
    · refine lv_iload_n hx hb dX7_fieldsOf_12 rfl (lv_at hl 1 rfl) ?_
      refine lv_iload_n hx hb dX7_fieldsOf_13 rfl (lv_at hl 3 rfl) ?_
      refine lv_ishr hx hb dX7_fieldsOf_14 ?_
      refine lv_iconst (v := 1) hx hb dX7_fieldsOf_15 (by decide) ?_
      refine lv_iand hx hb dX7_fieldsOf_16 ?_
      refine lv_iconst (v := 1) hx hb dX7_fieldsOf_17 (by decide) ?_
      refine lv_icmp_ne (tgt := 25) hx hb dX7_fieldsOf_18 (by decide) (fun c_3 => ?_) (fun c_3 => ?_)
      · refine lv_iconst (v := 0) hx hb dX7_fieldsOf_25 (by decide) ?_
        refine lv_istore (lv' := [(4, .int 0), (0, .ref (a 0)), (1, .int set), (2, .int acc), (3, .int (nI j))]) hx hb dX7_fieldsOf_26 hl (by decide) rfl (fun ls hl => ?_)
        obtain ⟨f0, ef0⟩ : ∃ z : Int32, z = (if ((set >>> (nI j &&& 31)) &&& 1) = 1 then 1 else 0) := ⟨_, rfl⟩
        have ef1 : f0 = 0 := by rw [ef0, if_neg c_3]
        have hl : lv_has ls 6 [(4, .int 0), (0, .ref (a 0)), (1, .int set), (2, .int acc), (3, .int (nI j))] := hl
        rw [← ef1] at hl
        refine lv_iconst (v := 0) hx hb dX7_fieldsOf_28 (by decide) ?_
        refine lv_istore (lv' := [(5, .int 0), (4, .int f0), (0, .ref (a 0)), (1, .int set), (2, .int acc), (3, .int (nI j))]) hx hb dX7_fieldsOf_29 hl (by decide) rfl (fun ls hl => ?_)
        obtain ⟨n31, k, f, hinv⟩ : ∃ (n31 : Nat) (k : Nat) (f : Int32), (k + n31 = j) ∧ (fiL (Z 0) set j n31 k f = fiL (Z 0) set j j 0 f0) ∧ lv_has ls 6 [(0, .ref (a 0)), (1, .int set), (2, .int acc), (3, .int (nI j)), (4, .int f), (5, .int (nI k))] := ⟨j, 0, f0, by omega, rfl, lv_sub hl [2, 3, 4, 5, 1, 0] rfl⟩
        clear hl
        induction n31 generalizing k f ls with
        | zero =>
          obtain ⟨h31_0, h31_1, hl⟩ := hinv
          refine lv_iload hx hb dX7_fieldsOf_31 (lv_at hl 5 rfl) ?_
          refine lv_iload_n hx hb dX7_fieldsOf_33 rfl (lv_at hl 3 rfl) ?_
          refine lv_icmp_ge (tgt := 109) hx hb dX7_fieldsOf_34 (by decide) (fun c_4 => ?_) (fun c_4 => ?_)
          · have e31 : f = fiL (Z 0) set j j 0 f0 := h31_1
            subst e31
            refine lv_iload_n hx hb dX7_fieldsOf_109 rfl (lv_at hl 2 rfl) ?_
            refine lv_iload hx hb dX7_fieldsOf_110 (lv_at hl 4 rfl) ?_
            refine lv_if_eq (tgt := 119) hx hb dX7_fieldsOf_112 (by decide) (fun c_5 => ?_) (fun c_5 => ?_)
            · refine lv_iconst (v := 0) hx hb dX7_fieldsOf_119 (by decide) ?_
              refine lv_iadd hx hb dX7_fieldsOf_120 ?_
              refine lv_istore_n (lv' := [(2, .int (acc + 0)), (0, .ref (a 0)), (1, .int set), (3, .int (nI j)), (4, .int (fiL (Z 0) set j j 0 f0)), (5, .int (nI k))]) hx hb dX7_fieldsOf_121 rfl hl (by decide) rfl (fun ls hl => ?_)
              refine lv_iinc (v := nI j + 1) (lv' := [(3, .int (nI j + 1)), (2, .int (acc + 0)), (0, .ref (a 0)), (1, .int set), (4, .int (fiL (Z 0) set j j 0 f0)), (5, .int (nI k))]) hx hb dX7_fieldsOf_122 hl (k := 3) rfl rfl (by decide) rfl (fun ls hl => ?_)
              refine lv_goto (tgt := 4) hx hb dX7_fieldsOf_125 (by decide) ?_
              rw [nI_1] at hl
              exact ih4 (j := j + 1) (acc := (acc + 0)) (ls := ls) ⟨by omega, by rw [← h4_1, foL]; exact congrArg (foL (Z 0) set n4 (j + 1)) (congrArg (acc + ·) (by rw [← ef0, if_pos c_5])), lv_sub hl [2, 3, 1, 0] rfl⟩
            · refine lv_iconst (v := 1) hx hb dX7_fieldsOf_115 (by decide) ?_
              refine lv_goto (tgt := 120) hx hb dX7_fieldsOf_116 (by decide) ?_
              refine lv_iadd hx hb dX7_fieldsOf_120 ?_
              refine lv_istore_n (lv' := [(2, .int (acc + 1)), (0, .ref (a 0)), (1, .int set), (3, .int (nI j)), (4, .int (fiL (Z 0) set j j 0 f0)), (5, .int (nI k))]) hx hb dX7_fieldsOf_121 rfl hl (by decide) rfl (fun ls hl => ?_)
              refine lv_iinc (v := nI j + 1) (lv' := [(3, .int (nI j + 1)), (2, .int (acc + 1)), (0, .ref (a 0)), (1, .int set), (4, .int (fiL (Z 0) set j j 0 f0)), (5, .int (nI k))]) hx hb dX7_fieldsOf_122 hl (k := 3) rfl rfl (by decide) rfl (fun ls hl => ?_)
              refine lv_goto (tgt := 4) hx hb dX7_fieldsOf_125 (by decide) ?_
              rw [nI_1] at hl
              exact ih4 (j := j + 1) (acc := (acc + 1)) (ls := ls) ⟨by omega, by rw [← h4_1, foL]; exact congrArg (foL (Z 0) set n4 (j + 1)) (congrArg (acc + ·) (by rw [← ef0, if_neg c_5])), lv_sub hl [2, 3, 1, 0] rfl⟩
          · exact absurd (q_le rfl rfl (by omega) (by omega)) c_4
        | succ n31 ih31 =>
          obtain ⟨h31_0, h31_1, hl⟩ := hinv
          refine lv_iload hx hb dX7_fieldsOf_31 (lv_at hl 5 rfl) ?_
          refine lv_iload_n hx hb dX7_fieldsOf_33 rfl (lv_at hl 3 rfl) ?_
          refine lv_icmp_ge (tgt := 109) hx hb dX7_fieldsOf_34 (by decide) (fun c_6 => ?_) (fun c_6 => ?_)
          · exact absurd c_6 (q_nle rfl rfl (by omega) (by omega))
          · refine lv_iload hx hb dX7_fieldsOf_37 (lv_at hl 4 rfl) ?_
            refine lv_if_eq (tgt := 100) hx hb dX7_fieldsOf_39 (by decide) (fun c_7 => ?_) (fun c_7 => ?_)
            · refine lv_iconst (v := 0) hx hb dX7_fieldsOf_100 (by decide) ?_
              refine lv_istore (lv' := [(4, .int 0), (0, .ref (a 0)), (1, .int set), (2, .int acc), (3, .int (nI j)), (5, .int (nI k))]) hx hb dX7_fieldsOf_101 hl (by decide) rfl (fun ls hl => ?_)
              refine lv_iinc (v := nI k + 1) (lv' := [(5, .int (nI k + 1)), (4, .int 0), (0, .ref (a 0)), (1, .int set), (2, .int acc), (3, .int (nI j))]) hx hb dX7_fieldsOf_103 hl (k := 5) rfl rfl (by decide) rfl (fun ls hl => ?_)
              refine lv_goto (tgt := 31) hx hb dX7_fieldsOf_106 (by decide) ?_
              rw [nI_1] at hl
              exact ih31 (k := k + 1) (f := 0) (ls := ls) ⟨by omega, by rw [← h31_1, fiL]; simp only [if_neg c_2, if_neg c_3, if_neg c_6, if_pos c_7], lv_sub hl [2, 3, 4, 5, 1, 0] rfl⟩
            · refine lv_iload_n hx hb dX7_fieldsOf_42 rfl (lv_at hl 1 rfl) ?_
              refine lv_iload hx hb dX7_fieldsOf_43 (lv_at hl 5 rfl) ?_
              refine lv_ishr hx hb dX7_fieldsOf_45 ?_
              refine lv_iconst (v := 1) hx hb dX7_fieldsOf_46 (by decide) ?_
              refine lv_iand hx hb dX7_fieldsOf_47 ?_
              refine lv_iconst (v := 1) hx hb dX7_fieldsOf_48 (by decide) ?_
              refine lv_icmp_ne (tgt := 96) hx hb dX7_fieldsOf_49 (by decide) (fun c_8 => ?_) (fun c_8 => ?_)
              · refine lv_iconst (v := 1) hx hb dX7_fieldsOf_96 (by decide) ?_
                refine lv_goto (tgt := 101) hx hb dX7_fieldsOf_97 (by decide) ?_
                refine lv_istore (lv' := [(4, .int 1), (0, .ref (a 0)), (1, .int set), (2, .int acc), (3, .int (nI j)), (5, .int (nI k))]) hx hb dX7_fieldsOf_101 hl (by decide) rfl (fun ls hl => ?_)
                refine lv_iinc (v := nI k + 1) (lv' := [(5, .int (nI k + 1)), (4, .int 1), (0, .ref (a 0)), (1, .int set), (2, .int acc), (3, .int (nI j))]) hx hb dX7_fieldsOf_103 hl (k := 5) rfl rfl (by decide) rfl (fun ls hl => ?_)
                refine lv_goto (tgt := 31) hx hb dX7_fieldsOf_106 (by decide) ?_
                rw [nI_1] at hl
                exact ih31 (k := k + 1) (f := 1) (ls := ls) ⟨by omega, by rw [← h31_1, fiL]; simp only [if_neg c_2, if_neg c_3, if_neg c_6, if_neg c_7, if_neg c_8], lv_sub hl [2, 3, 4, 5, 1, 0] rfl⟩
              · refine lv_aload_n hx hb dX7_fieldsOf_52 rfl (lv_at hl 0 rfl) ?_
                refine va_get (D := D) (ci := 7) (C := RX7) (T := TX7) (N := 23) hx hb hW inX7 hown hK hP 0 rfl rfl 1 (by decide) (hW _ (wa tw551 rfl)) (fun _ h9 => h9) rfl dX7_fieldsOf_53 ?_
                refine lv_iconst (v := 4) hx hb dX7_fieldsOf_56 (by decide) ?_
                refine lv_iload hx hb dX7_fieldsOf_57 (lv_at hl 5 rfl) ?_
                refine lv_imul hx hb dX7_fieldsOf_59 ?_
                refine xiald hx hb hK hP 1 rfl (4 * k) (q_mul (nI_lit 4) rfl) (by omega) (by decide) dX7_fieldsOf_60 ?_
                refine lv_aload_n hx hb dX7_fieldsOf_61 rfl (lv_at hl 0 rfl) ?_
                refine va_get (D := D) (ci := 7) (C := RX7) (T := TX7) (N := 23) hx hb hW inX7 hown hK hP 0 rfl rfl 1 (by decide) (hW _ (wa tw551 rfl)) (fun _ h9 => h9) rfl dX7_fieldsOf_62 ?_
                refine lv_iconst (v := 4) hx hb dX7_fieldsOf_65 (by decide) ?_
                refine lv_iload_n hx hb dX7_fieldsOf_66 rfl (lv_at hl 3 rfl) ?_
                refine lv_imul hx hb dX7_fieldsOf_67 ?_
                refine xiald hx hb hK hP 1 rfl (4 * j) (q_mul (nI_lit 4) rfl) (by omega) (by decide) dX7_fieldsOf_68 ?_
                refine lv_icmp_ne (tgt := 96) hx hb dX7_fieldsOf_69 (by decide) (fun c_9 => ?_) (fun c_9 => ?_)
                · refine lv_iconst (v := 1) hx hb dX7_fieldsOf_96 (by decide) ?_
                  refine lv_goto (tgt := 101) hx hb dX7_fieldsOf_97 (by decide) ?_
                  refine lv_istore (lv' := [(4, .int 1), (0, .ref (a 0)), (1, .int set), (2, .int acc), (3, .int (nI j)), (5, .int (nI k))]) hx hb dX7_fieldsOf_101 hl (by decide) rfl (fun ls hl => ?_)
                  refine lv_iinc (v := nI k + 1) (lv' := [(5, .int (nI k + 1)), (4, .int 1), (0, .ref (a 0)), (1, .int set), (2, .int acc), (3, .int (nI j))]) hx hb dX7_fieldsOf_103 hl (k := 5) rfl rfl (by decide) rfl (fun ls hl => ?_)
                  refine lv_goto (tgt := 31) hx hb dX7_fieldsOf_106 (by decide) ?_
                  rw [nI_1] at hl
                  exact ih31 (k := k + 1) (f := 1) (ls := ls) ⟨by omega, by rw [← h31_1, fiL]; simp only [if_neg c_2, if_neg c_3, if_neg c_6, if_neg c_7, if_pos c_8, if_neg c_9], lv_sub hl [2, 3, 4, 5, 1, 0] rfl⟩
                · refine lv_aload_n hx hb dX7_fieldsOf_72 rfl (lv_at hl 0 rfl) ?_
                  refine va_get (D := D) (ci := 7) (C := RX7) (T := TX7) (N := 23) hx hb hW inX7 hown hK hP 0 rfl rfl 1 (by decide) (hW _ (wa tw551 rfl)) (fun _ h9 => h9) rfl dX7_fieldsOf_73 ?_
                  refine lv_iconst (v := 4) hx hb dX7_fieldsOf_76 (by decide) ?_
                  refine lv_iload hx hb dX7_fieldsOf_77 (lv_at hl 5 rfl) ?_
                  refine lv_imul hx hb dX7_fieldsOf_79 ?_
                  refine lv_iconst (v := 1) hx hb dX7_fieldsOf_80 (by decide) ?_
                  refine lv_iadd hx hb dX7_fieldsOf_81 ?_
                  refine xiald hx hb hK hP 1 rfl ((4 * k) + 1) (q_add (q_mul (nI_lit 4) rfl) (nI_lit 1)) (by omega) (by decide) dX7_fieldsOf_82 ?_
                  refine lv_aload_n hx hb dX7_fieldsOf_83 rfl (lv_at hl 0 rfl) ?_
                  refine va_get (D := D) (ci := 7) (C := RX7) (T := TX7) (N := 23) hx hb hW inX7 hown hK hP 0 rfl rfl 1 (by decide) (hW _ (wa tw551 rfl)) (fun _ h9 => h9) rfl dX7_fieldsOf_84 ?_
                  refine lv_iconst (v := 4) hx hb dX7_fieldsOf_87 (by decide) ?_
                  refine lv_iload_n hx hb dX7_fieldsOf_88 rfl (lv_at hl 3 rfl) ?_
                  refine lv_imul hx hb dX7_fieldsOf_89 ?_
                  refine lv_iconst (v := 1) hx hb dX7_fieldsOf_90 (by decide) ?_
                  refine lv_iadd hx hb dX7_fieldsOf_91 ?_
                  refine xiald hx hb hK hP 1 rfl ((4 * j) + 1) (q_add (q_mul (nI_lit 4) rfl) (nI_lit 1)) (by omega) (by decide) dX7_fieldsOf_92 ?_
                  refine lv_icmp_eq (tgt := 100) hx hb dX7_fieldsOf_93 (by decide) (fun c_10 => ?_) (fun c_10 => ?_)
                  · refine lv_iconst (v := 0) hx hb dX7_fieldsOf_100 (by decide) ?_
                    refine lv_istore (lv' := [(4, .int 0), (0, .ref (a 0)), (1, .int set), (2, .int acc), (3, .int (nI j)), (5, .int (nI k))]) hx hb dX7_fieldsOf_101 hl (by decide) rfl (fun ls hl => ?_)
                    refine lv_iinc (v := nI k + 1) (lv' := [(5, .int (nI k + 1)), (4, .int 0), (0, .ref (a 0)), (1, .int set), (2, .int acc), (3, .int (nI j))]) hx hb dX7_fieldsOf_103 hl (k := 5) rfl rfl (by decide) rfl (fun ls hl => ?_)
                    refine lv_goto (tgt := 31) hx hb dX7_fieldsOf_106 (by decide) ?_
                    rw [nI_1] at hl
                    exact ih31 (k := k + 1) (f := 0) (ls := ls) ⟨by omega, by rw [← h31_1, fiL]; simp only [if_neg c_2, if_neg c_3, if_neg c_6, if_neg c_7, if_pos c_8, if_pos c_9, if_pos c_10], lv_sub hl [2, 3, 4, 5, 1, 0] rfl⟩
                  · refine lv_iconst (v := 1) hx hb dX7_fieldsOf_96 (by decide) ?_
                    refine lv_goto (tgt := 101) hx hb dX7_fieldsOf_97 (by decide) ?_
                    refine lv_istore (lv' := [(4, .int 1), (0, .ref (a 0)), (1, .int set), (2, .int acc), (3, .int (nI j)), (5, .int (nI k))]) hx hb dX7_fieldsOf_101 hl (by decide) rfl (fun ls hl => ?_)
                    refine lv_iinc (v := nI k + 1) (lv' := [(5, .int (nI k + 1)), (4, .int 1), (0, .ref (a 0)), (1, .int set), (2, .int acc), (3, .int (nI j))]) hx hb dX7_fieldsOf_103 hl (k := 5) rfl rfl (by decide) rfl (fun ls hl => ?_)
                    refine lv_goto (tgt := 31) hx hb dX7_fieldsOf_106 (by decide) ?_
                    rw [nI_1] at hl
                    exact ih31 (k := k + 1) (f := 1) (ls := ls) ⟨by omega, by rw [← h31_1, fiL]; simp only [if_neg c_2, if_neg c_3, if_neg c_6, if_neg c_7, if_pos c_8, if_pos c_9, if_neg c_10], lv_sub hl [2, 3, 4, 5, 1, 0] rfl⟩
      · refine lv_iconst (v := 1) hx hb dX7_fieldsOf_21 (by decide) ?_
        refine lv_goto (tgt := 26) hx hb dX7_fieldsOf_22 (by decide) ?_
        refine lv_istore (lv' := [(4, .int 1), (0, .ref (a 0)), (1, .int set), (2, .int acc), (3, .int (nI j))]) hx hb dX7_fieldsOf_26 hl (by decide) rfl (fun ls hl => ?_)
        obtain ⟨f0, ef0⟩ : ∃ z : Int32, z = (if ((set >>> (nI j &&& 31)) &&& 1) = 1 then 1 else 0) := ⟨_, rfl⟩
        have ef1 : f0 = 1 := by rw [ef0, if_pos c_3]
        have hl : lv_has ls 6 [(4, .int 1), (0, .ref (a 0)), (1, .int set), (2, .int acc), (3, .int (nI j))] := hl
        rw [← ef1] at hl
        refine lv_iconst (v := 0) hx hb dX7_fieldsOf_28 (by decide) ?_
        refine lv_istore (lv' := [(5, .int 0), (4, .int f0), (0, .ref (a 0)), (1, .int set), (2, .int acc), (3, .int (nI j))]) hx hb dX7_fieldsOf_29 hl (by decide) rfl (fun ls hl => ?_)
        obtain ⟨n31, k, f, hinv⟩ : ∃ (n31 : Nat) (k : Nat) (f : Int32), (k + n31 = j) ∧ (fiL (Z 0) set j n31 k f = fiL (Z 0) set j j 0 f0) ∧ lv_has ls 6 [(0, .ref (a 0)), (1, .int set), (2, .int acc), (3, .int (nI j)), (4, .int f), (5, .int (nI k))] := ⟨j, 0, f0, by omega, rfl, lv_sub hl [2, 3, 4, 5, 1, 0] rfl⟩
        clear hl
        induction n31 generalizing k f ls with
        | zero =>
          obtain ⟨h31_0, h31_1, hl⟩ := hinv
          refine lv_iload hx hb dX7_fieldsOf_31 (lv_at hl 5 rfl) ?_
          refine lv_iload_n hx hb dX7_fieldsOf_33 rfl (lv_at hl 3 rfl) ?_
          refine lv_icmp_ge (tgt := 109) hx hb dX7_fieldsOf_34 (by decide) (fun c_11 => ?_) (fun c_11 => ?_)
          · have e31 : f = fiL (Z 0) set j j 0 f0 := h31_1
            subst e31
            refine lv_iload_n hx hb dX7_fieldsOf_109 rfl (lv_at hl 2 rfl) ?_
            refine lv_iload hx hb dX7_fieldsOf_110 (lv_at hl 4 rfl) ?_
            refine lv_if_eq (tgt := 119) hx hb dX7_fieldsOf_112 (by decide) (fun c_12 => ?_) (fun c_12 => ?_)
            · refine lv_iconst (v := 0) hx hb dX7_fieldsOf_119 (by decide) ?_
              refine lv_iadd hx hb dX7_fieldsOf_120 ?_
              refine lv_istore_n (lv' := [(2, .int (acc + 0)), (0, .ref (a 0)), (1, .int set), (3, .int (nI j)), (4, .int (fiL (Z 0) set j j 0 f0)), (5, .int (nI k))]) hx hb dX7_fieldsOf_121 rfl hl (by decide) rfl (fun ls hl => ?_)
              refine lv_iinc (v := nI j + 1) (lv' := [(3, .int (nI j + 1)), (2, .int (acc + 0)), (0, .ref (a 0)), (1, .int set), (4, .int (fiL (Z 0) set j j 0 f0)), (5, .int (nI k))]) hx hb dX7_fieldsOf_122 hl (k := 3) rfl rfl (by decide) rfl (fun ls hl => ?_)
              refine lv_goto (tgt := 4) hx hb dX7_fieldsOf_125 (by decide) ?_
              rw [nI_1] at hl
              exact ih4 (j := j + 1) (acc := (acc + 0)) (ls := ls) ⟨by omega, by rw [← h4_1, foL]; exact congrArg (foL (Z 0) set n4 (j + 1)) (congrArg (acc + ·) (by rw [← ef0, if_pos c_12])), lv_sub hl [2, 3, 1, 0] rfl⟩
            · refine lv_iconst (v := 1) hx hb dX7_fieldsOf_115 (by decide) ?_
              refine lv_goto (tgt := 120) hx hb dX7_fieldsOf_116 (by decide) ?_
              refine lv_iadd hx hb dX7_fieldsOf_120 ?_
              refine lv_istore_n (lv' := [(2, .int (acc + 1)), (0, .ref (a 0)), (1, .int set), (3, .int (nI j)), (4, .int (fiL (Z 0) set j j 0 f0)), (5, .int (nI k))]) hx hb dX7_fieldsOf_121 rfl hl (by decide) rfl (fun ls hl => ?_)
              refine lv_iinc (v := nI j + 1) (lv' := [(3, .int (nI j + 1)), (2, .int (acc + 1)), (0, .ref (a 0)), (1, .int set), (4, .int (fiL (Z 0) set j j 0 f0)), (5, .int (nI k))]) hx hb dX7_fieldsOf_122 hl (k := 3) rfl rfl (by decide) rfl (fun ls hl => ?_)
              refine lv_goto (tgt := 4) hx hb dX7_fieldsOf_125 (by decide) ?_
              rw [nI_1] at hl
              exact ih4 (j := j + 1) (acc := (acc + 1)) (ls := ls) ⟨by omega, by rw [← h4_1, foL]; exact congrArg (foL (Z 0) set n4 (j + 1)) (congrArg (acc + ·) (by rw [← ef0, if_neg c_12])), lv_sub hl [2, 3, 1, 0] rfl⟩
          · exact absurd (q_le rfl rfl (by omega) (by omega)) c_11
        | succ n31 ih31 =>
          obtain ⟨h31_0, h31_1, hl⟩ := hinv
          refine lv_iload hx hb dX7_fieldsOf_31 (lv_at hl 5 rfl) ?_
          refine lv_iload_n hx hb dX7_fieldsOf_33 rfl (lv_at hl 3 rfl) ?_
          refine lv_icmp_ge (tgt := 109) hx hb dX7_fieldsOf_34 (by decide) (fun c_13 => ?_) (fun c_13 => ?_)
          · exact absurd c_13 (q_nle rfl rfl (by omega) (by omega))
          · refine lv_iload hx hb dX7_fieldsOf_37 (lv_at hl 4 rfl) ?_
            refine lv_if_eq (tgt := 100) hx hb dX7_fieldsOf_39 (by decide) (fun c_14 => ?_) (fun c_14 => ?_)
            · refine lv_iconst (v := 0) hx hb dX7_fieldsOf_100 (by decide) ?_
              refine lv_istore (lv' := [(4, .int 0), (0, .ref (a 0)), (1, .int set), (2, .int acc), (3, .int (nI j)), (5, .int (nI k))]) hx hb dX7_fieldsOf_101 hl (by decide) rfl (fun ls hl => ?_)
              refine lv_iinc (v := nI k + 1) (lv' := [(5, .int (nI k + 1)), (4, .int 0), (0, .ref (a 0)), (1, .int set), (2, .int acc), (3, .int (nI j))]) hx hb dX7_fieldsOf_103 hl (k := 5) rfl rfl (by decide) rfl (fun ls hl => ?_)
              refine lv_goto (tgt := 31) hx hb dX7_fieldsOf_106 (by decide) ?_
              rw [nI_1] at hl
              exact ih31 (k := k + 1) (f := 0) (ls := ls) ⟨by omega, by rw [← h31_1, fiL]; simp only [if_neg c_2, if_pos c_3, if_neg c_13, if_pos c_14], lv_sub hl [2, 3, 4, 5, 1, 0] rfl⟩
            · refine lv_iload_n hx hb dX7_fieldsOf_42 rfl (lv_at hl 1 rfl) ?_
              refine lv_iload hx hb dX7_fieldsOf_43 (lv_at hl 5 rfl) ?_
              refine lv_ishr hx hb dX7_fieldsOf_45 ?_
              refine lv_iconst (v := 1) hx hb dX7_fieldsOf_46 (by decide) ?_
              refine lv_iand hx hb dX7_fieldsOf_47 ?_
              refine lv_iconst (v := 1) hx hb dX7_fieldsOf_48 (by decide) ?_
              refine lv_icmp_ne (tgt := 96) hx hb dX7_fieldsOf_49 (by decide) (fun c_15 => ?_) (fun c_15 => ?_)
              · refine lv_iconst (v := 1) hx hb dX7_fieldsOf_96 (by decide) ?_
                refine lv_goto (tgt := 101) hx hb dX7_fieldsOf_97 (by decide) ?_
                refine lv_istore (lv' := [(4, .int 1), (0, .ref (a 0)), (1, .int set), (2, .int acc), (3, .int (nI j)), (5, .int (nI k))]) hx hb dX7_fieldsOf_101 hl (by decide) rfl (fun ls hl => ?_)
                refine lv_iinc (v := nI k + 1) (lv' := [(5, .int (nI k + 1)), (4, .int 1), (0, .ref (a 0)), (1, .int set), (2, .int acc), (3, .int (nI j))]) hx hb dX7_fieldsOf_103 hl (k := 5) rfl rfl (by decide) rfl (fun ls hl => ?_)
                refine lv_goto (tgt := 31) hx hb dX7_fieldsOf_106 (by decide) ?_
                rw [nI_1] at hl
                exact ih31 (k := k + 1) (f := 1) (ls := ls) ⟨by omega, by rw [← h31_1, fiL]; simp only [if_neg c_2, if_pos c_3, if_neg c_13, if_neg c_14, if_neg c_15], lv_sub hl [2, 3, 4, 5, 1, 0] rfl⟩
              · refine lv_aload_n hx hb dX7_fieldsOf_52 rfl (lv_at hl 0 rfl) ?_
                refine va_get (D := D) (ci := 7) (C := RX7) (T := TX7) (N := 23) hx hb hW inX7 hown hK hP 0 rfl rfl 1 (by decide) (hW _ (wa tw551 rfl)) (fun _ h9 => h9) rfl dX7_fieldsOf_53 ?_
                refine lv_iconst (v := 4) hx hb dX7_fieldsOf_56 (by decide) ?_
                refine lv_iload hx hb dX7_fieldsOf_57 (lv_at hl 5 rfl) ?_
                refine lv_imul hx hb dX7_fieldsOf_59 ?_
                refine xiald hx hb hK hP 1 rfl (4 * k) (q_mul (nI_lit 4) rfl) (by omega) (by decide) dX7_fieldsOf_60 ?_
                refine lv_aload_n hx hb dX7_fieldsOf_61 rfl (lv_at hl 0 rfl) ?_
                refine va_get (D := D) (ci := 7) (C := RX7) (T := TX7) (N := 23) hx hb hW inX7 hown hK hP 0 rfl rfl 1 (by decide) (hW _ (wa tw551 rfl)) (fun _ h9 => h9) rfl dX7_fieldsOf_62 ?_
                refine lv_iconst (v := 4) hx hb dX7_fieldsOf_65 (by decide) ?_
                refine lv_iload_n hx hb dX7_fieldsOf_66 rfl (lv_at hl 3 rfl) ?_
                refine lv_imul hx hb dX7_fieldsOf_67 ?_
                refine xiald hx hb hK hP 1 rfl (4 * j) (q_mul (nI_lit 4) rfl) (by omega) (by decide) dX7_fieldsOf_68 ?_
                refine lv_icmp_ne (tgt := 96) hx hb dX7_fieldsOf_69 (by decide) (fun c_16 => ?_) (fun c_16 => ?_)
                · refine lv_iconst (v := 1) hx hb dX7_fieldsOf_96 (by decide) ?_
                  refine lv_goto (tgt := 101) hx hb dX7_fieldsOf_97 (by decide) ?_
                  refine lv_istore (lv' := [(4, .int 1), (0, .ref (a 0)), (1, .int set), (2, .int acc), (3, .int (nI j)), (5, .int (nI k))]) hx hb dX7_fieldsOf_101 hl (by decide) rfl (fun ls hl => ?_)
                  refine lv_iinc (v := nI k + 1) (lv' := [(5, .int (nI k + 1)), (4, .int 1), (0, .ref (a 0)), (1, .int set), (2, .int acc), (3, .int (nI j))]) hx hb dX7_fieldsOf_103 hl (k := 5) rfl rfl (by decide) rfl (fun ls hl => ?_)
                  refine lv_goto (tgt := 31) hx hb dX7_fieldsOf_106 (by decide) ?_
                  rw [nI_1] at hl
                  exact ih31 (k := k + 1) (f := 1) (ls := ls) ⟨by omega, by rw [← h31_1, fiL]; simp only [if_neg c_2, if_pos c_3, if_neg c_13, if_neg c_14, if_pos c_15, if_neg c_16], lv_sub hl [2, 3, 4, 5, 1, 0] rfl⟩
                · refine lv_aload_n hx hb dX7_fieldsOf_72 rfl (lv_at hl 0 rfl) ?_
                  refine va_get (D := D) (ci := 7) (C := RX7) (T := TX7) (N := 23) hx hb hW inX7 hown hK hP 0 rfl rfl 1 (by decide) (hW _ (wa tw551 rfl)) (fun _ h9 => h9) rfl dX7_fieldsOf_73 ?_
                  refine lv_iconst (v := 4) hx hb dX7_fieldsOf_76 (by decide) ?_
                  refine lv_iload hx hb dX7_fieldsOf_77 (lv_at hl 5 rfl) ?_
                  refine lv_imul hx hb dX7_fieldsOf_79 ?_
                  refine lv_iconst (v := 1) hx hb dX7_fieldsOf_80 (by decide) ?_
                  refine lv_iadd hx hb dX7_fieldsOf_81 ?_
                  refine xiald hx hb hK hP 1 rfl ((4 * k) + 1) (q_add (q_mul (nI_lit 4) rfl) (nI_lit 1)) (by omega) (by decide) dX7_fieldsOf_82 ?_
                  refine lv_aload_n hx hb dX7_fieldsOf_83 rfl (lv_at hl 0 rfl) ?_
                  refine va_get (D := D) (ci := 7) (C := RX7) (T := TX7) (N := 23) hx hb hW inX7 hown hK hP 0 rfl rfl 1 (by decide) (hW _ (wa tw551 rfl)) (fun _ h9 => h9) rfl dX7_fieldsOf_84 ?_
                  refine lv_iconst (v := 4) hx hb dX7_fieldsOf_87 (by decide) ?_
                  refine lv_iload_n hx hb dX7_fieldsOf_88 rfl (lv_at hl 3 rfl) ?_
                  refine lv_imul hx hb dX7_fieldsOf_89 ?_
                  refine lv_iconst (v := 1) hx hb dX7_fieldsOf_90 (by decide) ?_
                  refine lv_iadd hx hb dX7_fieldsOf_91 ?_
                  refine xiald hx hb hK hP 1 rfl ((4 * j) + 1) (q_add (q_mul (nI_lit 4) rfl) (nI_lit 1)) (by omega) (by decide) dX7_fieldsOf_92 ?_
                  refine lv_icmp_eq (tgt := 100) hx hb dX7_fieldsOf_93 (by decide) (fun c_17 => ?_) (fun c_17 => ?_)
                  · refine lv_iconst (v := 0) hx hb dX7_fieldsOf_100 (by decide) ?_
                    refine lv_istore (lv' := [(4, .int 0), (0, .ref (a 0)), (1, .int set), (2, .int acc), (3, .int (nI j)), (5, .int (nI k))]) hx hb dX7_fieldsOf_101 hl (by decide) rfl (fun ls hl => ?_)
                    refine lv_iinc (v := nI k + 1) (lv' := [(5, .int (nI k + 1)), (4, .int 0), (0, .ref (a 0)), (1, .int set), (2, .int acc), (3, .int (nI j))]) hx hb dX7_fieldsOf_103 hl (k := 5) rfl rfl (by decide) rfl (fun ls hl => ?_)
                    refine lv_goto (tgt := 31) hx hb dX7_fieldsOf_106 (by decide) ?_
                    rw [nI_1] at hl
                    exact ih31 (k := k + 1) (f := 0) (ls := ls) ⟨by omega, by rw [← h31_1, fiL]; simp only [if_neg c_2, if_pos c_3, if_neg c_13, if_neg c_14, if_pos c_15, if_pos c_16, if_pos c_17], lv_sub hl [2, 3, 4, 5, 1, 0] rfl⟩
                  · refine lv_iconst (v := 1) hx hb dX7_fieldsOf_96 (by decide) ?_
                    refine lv_goto (tgt := 101) hx hb dX7_fieldsOf_97 (by decide) ?_
                    refine lv_istore (lv' := [(4, .int 1), (0, .ref (a 0)), (1, .int set), (2, .int acc), (3, .int (nI j)), (5, .int (nI k))]) hx hb dX7_fieldsOf_101 hl (by decide) rfl (fun ls hl => ?_)
                    refine lv_iinc (v := nI k + 1) (lv' := [(5, .int (nI k + 1)), (4, .int 1), (0, .ref (a 0)), (1, .int set), (2, .int acc), (3, .int (nI j))]) hx hb dX7_fieldsOf_103 hl (k := 5) rfl rfl (by decide) rfl (fun ls hl => ?_)
                    refine lv_goto (tgt := 31) hx hb dX7_fieldsOf_106 (by decide) ?_
                    rw [nI_1] at hl
                    exact ih31 (k := k + 1) (f := 1) (ls := ls) ⟨by omega, by rw [← h31_1, fiL]; simp only [if_neg c_2, if_pos c_3, if_neg c_13, if_neg c_14, if_pos c_15, if_pos c_16, if_neg c_17], lv_sub hl [2, 3, 4, 5, 1, 0] rfl⟩

def f7_term (pl : Nat → Int32) (model : Int32) (k t : Nat) : Int64 := (if (nI t) = 0 then (1) else (if model = 1 then (((pl) ((((4 * k) + 0) + t) - 1)).toInt64) else (((pl) ((((4 * k) + 2) + t) - 1)).toInt64)))
set_option maxHeartbeats 4000000 in
set_option maxRecDepth 100000 in
theorem kX7_term (l : Launch) (D : va_G) (C : Nat → ClassId) (a : Nat → Nat) (Z : Nat → Nat → Int32) (Y : Nat → Nat → Int64) (model : Int32) (k t : Nat) (hk : k < 12) (ht : t < 3) : Rl l D C yX7_term cX7_term 4 0 [.ref (a 0), .int model, .int (nI k), .int (nI t)] (wZ a C Z Y) (f7_term (Z 0) model k t) := by
  refine Met.ofW (cc := cX7_term) (maxL := 4) (ret := (some .long)) (by decide) rfl ?_
  intro p e s m args below meth c s₁ B hml hv
  obtain ⟨rfl, hP, hK, hNw⟩ := hv
  have hx := B.exec
  have hb := B.bytes
  have hr := B.returns
  have hts := atoms_spec (ws := wm yX7_term cX7_term 4 (some .long)) B.pre
  have hown : s.vm.findClass RX7 = some m.cls := findClass_of_methodNamed B.named
  have hlocks := B.notSynchronized
  have hW : ∀ w ∈ WA, w.before _ s = true := fun w h => hts w (List.mem_cons_of_mem _ h)
  have hP : va_P D vwCl [((a 0), .inr (7, [.int (Z 12 0), .ref (a 1), .ref (a 2), .ref (a 3), .ref (a 4), .int (Z 12 1), .ref (a 5), .ref (a 6), .ref (a 7), .ref (a 8), .ref (a 9), .int (Z 12 2), .ref (a 10), .int (Z 12 3), .int (Z 12 4), .ref (a 11), .ref (a 12), .long (Y 5 0), .ref (a 13), .ref (a 14), .ref (a 15), .ref (a 16), .ref (a 17)])), ((a 1), eI C 48 (Z 0)), ((a 2), eI C 24 (Z 1)), ((a 3), eZ C 12 (Z 2)), ((a 4), eZ C 12 (Z 3)), ((a 5), eI C 60 (Z 4)), ((a 6), eI C 60 (Z 5)), ((a 7), eI C 60 (Z 6)), ((a 8), eZ C 60 (Z 7)), ((a 9), eZ C 244 (Z 8)), ((a 10), eI C 24 (Z 9)), ((a 11), eJ C 9 (Y 0)), ((a 12), eJ C 9 (Y 1)), ((a 13), eJ C 3 (Y 2)), ((a 14), eJ C 3 (Y 3)), ((a 15), eJ C 12 (Y 4)), ((a 16), eI C 6 (Z 10)), ((a 17), eI C 4 (Z 11))] s.heap := hP
  have hl := lv_entry ([.ref (a 0), .int model, .int (nI k), .int (nI t)]) (n := 4) (Nat.le_of_ble_eq_true rfl)
  rw [lg_entry_eq]
  generalize (lg_sl ([.ref (a 0), .int model, .int (nI k), .int (nI t)]) ++ List.replicate (4 - (lg_sl ([.ref (a 0), .int model, .int (nI k), .int (nI t)])).length) Slot.unset).toArray = ls at hl ⊢
  have hl : lv_has ls 4 [(0, .ref (a 0)), (1, .int model), (2, .int (nI k)), (3, .int (nI t))] := hl
  refine lv_iload_n hx hb dX7_term_0 rfl (lv_at hl 3 rfl) ?_
  refine lv_if_ne (tgt := 8) hx hb dX7_term_1 (by decide) (fun c_1 => ?_) (fun c_1 => ?_)
  · have ht0 : 0 < t := q_of_ne0 rfl c_1
    refine lv_aload_n hx hb dX7_term_8 rfl (lv_at hl 0 rfl) ?_
    refine va_get (D := D) (ci := 7) (C := RX7) (T := TX7) (N := 23) hx hb hW inX7 hown hK hP 0 rfl rfl 1 (by decide) (hW _ (wa tw551 rfl)) (fun _ h9 => h9) rfl dX7_term_9 ?_
    refine lv_iconst (v := 4) hx hb dX7_term_12 (by decide) ?_
    refine lv_iload_n hx hb dX7_term_13 rfl (lv_at hl 2 rfl) ?_
    refine lv_imul hx hb dX7_term_14 ?_
    refine lv_iload_n hx hb dX7_term_15 rfl (lv_at hl 1 rfl) ?_
    refine lv_iconst (v := 1) hx hb dX7_term_16 (by decide) ?_
    refine lv_icmp_ne (tgt := 24) hx hb dX7_term_17 (by decide) (fun c_2 => ?_) (fun c_2 => ?_)
    · refine lv_iconst (v := 2) hx hb dX7_term_24 (by decide) ?_
      refine lv_iadd hx hb dX7_term_25 ?_
      refine lv_iload_n hx hb dX7_term_26 rfl (lv_at hl 3 rfl) ?_
      refine lv_iadd hx hb dX7_term_27 ?_
      refine lv_iconst (v := 1) hx hb dX7_term_28 (by decide) ?_
      refine lv_isub hx hb dX7_term_29 ?_
      refine xiald hx hb hK hP 1 rfl ((((4 * k) + 2) + t) - 1) (q_sub (q_add (q_add (q_mul (nI_lit 4) rfl) (nI_lit 2)) rfl) (nI_lit 1) (by omega)) (by omega) (by decide) dX7_term_30 ?_
      refine lv_i2l (v := ((Z 0) ((((4 * k) + 2) + t) - 1)).toInt64) hx hb dX7_term_31 rfl ?_
      exact W.lret (v := ((Z 0) ((((4 * k) + 2) + t) - 1)).toInt64) hx hb hr (fun t ht _ => ⟨_, rfl, (by simp only [f7_term, if_neg c_1, if_neg c_2]), ht⟩) (fun q h => by cases h) dX7_term_32
    · refine lv_iconst (v := 0) hx hb dX7_term_20 (by decide) ?_
      refine lv_goto (tgt := 25) hx hb dX7_term_21 (by decide) ?_
      refine lv_iadd hx hb dX7_term_25 ?_
      refine lv_iload_n hx hb dX7_term_26 rfl (lv_at hl 3 rfl) ?_
      refine lv_iadd hx hb dX7_term_27 ?_
      refine lv_iconst (v := 1) hx hb dX7_term_28 (by decide) ?_
      refine lv_isub hx hb dX7_term_29 ?_
      refine xiald hx hb hK hP 1 rfl ((((4 * k) + 0) + t) - 1) (q_sub (q_add (q_add (q_mul (nI_lit 4) rfl) (nI_lit 0)) rfl) (nI_lit 1) (by omega)) (by omega) (by decide) dX7_term_30 ?_
      refine lv_i2l (v := ((Z 0) ((((4 * k) + 0) + t) - 1)).toInt64) hx hb dX7_term_31 rfl ?_
      exact W.lret (v := ((Z 0) ((((4 * k) + 0) + t) - 1)).toInt64) hx hb hr (fun t ht _ => ⟨_, rfl, (by simp only [f7_term, if_neg c_1, if_pos c_2]), ht⟩) (fun q h => by cases h) dX7_term_32
  · refine lv_lconst (v := 1) hx hb dX7_term_4 (by decide) ?_
    refine lv_goto (tgt := 32) hx hb dX7_term_5 (by decide) ?_
    exact W.lret (v := 1) hx hb hr (fun t ht _ => ⟨_, rfl, (by simp only [f7_term, if_pos c_1]), ht⟩) (fun q h => by cases h) dX7_term_32

def f7_minor (S : Nat → Int64) (r q : Nat) : Int64 := ((((S) ((3 * ((r + 1) % 3)) + ((q + 1) % 3))) * ((S) ((3 * ((r + 2) % 3)) + ((q + 2) % 3)))) - (((S) ((3 * ((r + 1) % 3)) + ((q + 2) % 3))) * ((S) ((3 * ((r + 2) % 3)) + ((q + 1) % 3)))))
set_option maxHeartbeats 4000000 in
set_option maxRecDepth 100000 in
theorem kX7_minor (l : Launch) (D : va_G) (C : Nat → ClassId) (a : Nat → Nat) (Z : Nat → Nat → Int32) (Y : Nat → Nat → Int64) (r q : Nat) (hr3 : r < 3) (hq3 : q < 3) : Rl l D C yX7_minor cX7_minor 7 0 [.ref (a 0), .int (nI r), .int (nI q)] (wZ a C Z Y) (f7_minor (Y 0) r q) := by
  refine Met.ofW (cc := cX7_minor) (maxL := 7) (ret := (some .long)) (by decide) rfl ?_
  intro p e s m args below meth c s₁ B hml hv
  obtain ⟨rfl, hP, hK, hNw⟩ := hv
  have hx := B.exec
  have hb := B.bytes
  have hr := B.returns
  have hts := atoms_spec (ws := wm yX7_minor cX7_minor 7 (some .long)) B.pre
  have hown : s.vm.findClass RX7 = some m.cls := findClass_of_methodNamed B.named
  have hlocks := B.notSynchronized
  have hW : ∀ w ∈ WA, w.before _ s = true := fun w h => hts w (List.mem_cons_of_mem _ h)
  have hP : va_P D vwCl [((a 0), .inr (7, [.int (Z 12 0), .ref (a 1), .ref (a 2), .ref (a 3), .ref (a 4), .int (Z 12 1), .ref (a 5), .ref (a 6), .ref (a 7), .ref (a 8), .ref (a 9), .int (Z 12 2), .ref (a 10), .int (Z 12 3), .int (Z 12 4), .ref (a 11), .ref (a 12), .long (Y 5 0), .ref (a 13), .ref (a 14), .ref (a 15), .ref (a 16), .ref (a 17)])), ((a 1), eI C 48 (Z 0)), ((a 2), eI C 24 (Z 1)), ((a 3), eZ C 12 (Z 2)), ((a 4), eZ C 12 (Z 3)), ((a 5), eI C 60 (Z 4)), ((a 6), eI C 60 (Z 5)), ((a 7), eI C 60 (Z 6)), ((a 8), eZ C 60 (Z 7)), ((a 9), eZ C 244 (Z 8)), ((a 10), eI C 24 (Z 9)), ((a 11), eJ C 9 (Y 0)), ((a 12), eJ C 9 (Y 1)), ((a 13), eJ C 3 (Y 2)), ((a 14), eJ C 3 (Y 3)), ((a 15), eJ C 12 (Y 4)), ((a 16), eI C 6 (Z 10)), ((a 17), eI C 4 (Z 11))] s.heap := hP
  have hl := lv_entry ([.ref (a 0), .int (nI r), .int (nI q)]) (n := 7) (Nat.le_of_ble_eq_true rfl)
  rw [lg_entry_eq]
  generalize (lg_sl ([.ref (a 0), .int (nI r), .int (nI q)]) ++ List.replicate (7 - (lg_sl ([.ref (a 0), .int (nI r), .int (nI q)])).length) Slot.unset).toArray = ls at hl ⊢
  have hl : lv_has ls 7 [(0, .ref (a 0)), (1, .int (nI r)), (2, .int (nI q))] := hl
  refine lv_iload_n hx hb dX7_minor_0 rfl (lv_at hl 1 rfl) ?_
  refine lv_iconst (v := 1) hx hb dX7_minor_1 (by decide) ?_
  refine lv_iadd hx hb dX7_minor_2 ?_
  refine lv_iconst (v := 3) hx hb dX7_minor_3 (by decide) ?_
  refine lv_irem hx hb dX7_minor_4 (by decide) ?_
  refine xtopi (y := nI ((r + 1) % 3)) (q_rem (q_add rfl (nI_lit 1)) (nI_lit 3) (by omega) (by omega) (by omega)) ?_
  refine lv_istore_n (lv' := [(3, .int (nI ((r + 1) % 3))), (0, .ref (a 0)), (1, .int (nI r)), (2, .int (nI q))]) hx hb dX7_minor_5 rfl hl (by decide) rfl (fun ls hl => ?_)
  refine lv_iload_n hx hb dX7_minor_6 rfl (lv_at hl 2 rfl) ?_
  refine lv_iconst (v := 2) hx hb dX7_minor_7 (by decide) ?_
  refine lv_iadd hx hb dX7_minor_8 ?_
  refine lv_iconst (v := 3) hx hb dX7_minor_9 (by decide) ?_
  refine lv_irem hx hb dX7_minor_10 (by decide) ?_
  refine xtopi (y := nI ((r + 2) % 3)) (q_rem (q_add rfl (nI_lit 2)) (nI_lit 3) (by omega) (by omega) (by omega)) ?_
  refine lv_istore (lv' := [(4, .int (nI ((r + 2) % 3))), (3, .int (nI ((r + 1) % 3))), (0, .ref (a 0)), (1, .int (nI r)), (2, .int (nI q))]) hx hb dX7_minor_11 hl (by decide) rfl (fun ls hl => ?_)
  refine lv_iload_n hx hb dX7_minor_13 rfl (lv_at hl 4 rfl) ?_
  refine lv_iconst (v := 1) hx hb dX7_minor_14 (by decide) ?_
  refine lv_iadd hx hb dX7_minor_15 ?_
  refine lv_iconst (v := 3) hx hb dX7_minor_16 (by decide) ?_
  refine lv_irem hx hb dX7_minor_17 (by decide) ?_
  refine xtopi (y := nI ((q + 1) % 3)) (q_rem (q_add rfl (nI_lit 1)) (nI_lit 3) (by omega) (by omega) (by omega)) ?_
  refine lv_istore (lv' := [(5, .int (nI ((q + 1) % 3))), (4, .int (nI ((r + 2) % 3))), (3, .int (nI ((r + 1) % 3))), (0, .ref (a 0)), (1, .int (nI r)), (2, .int (nI q))]) hx hb dX7_minor_18 hl (by decide) rfl (fun ls hl => ?_)
  refine lv_iload_n hx hb dX7_minor_20 rfl (lv_at hl 5 rfl) ?_
  refine lv_iconst (v := 2) hx hb dX7_minor_21 (by decide) ?_
  refine lv_iadd hx hb dX7_minor_22 ?_
  refine lv_iconst (v := 3) hx hb dX7_minor_23 (by decide) ?_
  refine lv_irem hx hb dX7_minor_24 (by decide) ?_
  refine xtopi (y := nI ((q + 2) % 3)) (q_rem (q_add rfl (nI_lit 2)) (nI_lit 3) (by omega) (by omega) (by omega)) ?_
  refine lv_istore (lv' := [(6, .int (nI ((q + 2) % 3))), (5, .int (nI ((q + 1) % 3))), (4, .int (nI ((r + 2) % 3))), (3, .int (nI ((r + 1) % 3))), (0, .ref (a 0)), (1, .int (nI r)), (2, .int (nI q))]) hx hb dX7_minor_25 hl (by decide) rfl (fun ls hl => ?_)
  refine lv_aload_n hx hb dX7_minor_27 rfl (lv_at hl 4 rfl) ?_
  refine va_get (D := D) (ci := 7) (C := RX7) (T := TX7) (N := 23) hx hb hW inX7 hown hK hP 0 rfl rfl 15 (by decide) (hW _ (wa tw565 rfl)) (fun _ h9 => h9) rfl dX7_minor_28 ?_
  refine lv_iconst (v := 3) hx hb dX7_minor_31 (by decide) ?_
  refine lv_iload_n hx hb dX7_minor_32 rfl (lv_at hl 3 rfl) ?_
  refine lv_imul hx hb dX7_minor_33 ?_
  refine lv_iload hx hb dX7_minor_34 (lv_at hl 1 rfl) ?_
  refine lv_iadd hx hb dX7_minor_36 ?_
  refine xlald hx hb hK hP 11 rfl ((3 * ((r + 1) % 3)) + ((q + 1) % 3)) (q_add (q_mul (nI_lit 3) rfl) rfl) (by omega) (by decide) dX7_minor_37 ?_
  refine lv_aload_n hx hb dX7_minor_38 rfl (lv_at hl 4 rfl) ?_
  refine va_get (D := D) (ci := 7) (C := RX7) (T := TX7) (N := 23) hx hb hW inX7 hown hK hP 0 rfl rfl 15 (by decide) (hW _ (wa tw565 rfl)) (fun _ h9 => h9) rfl dX7_minor_39 ?_
  refine lv_iconst (v := 3) hx hb dX7_minor_42 (by decide) ?_
  refine lv_iload hx hb dX7_minor_43 (lv_at hl 2 rfl) ?_
  refine lv_imul hx hb dX7_minor_45 ?_
  refine lv_iload hx hb dX7_minor_46 (lv_at hl 0 rfl) ?_
  refine lv_iadd hx hb dX7_minor_48 ?_
  refine xlald hx hb hK hP 11 rfl ((3 * ((r + 2) % 3)) + ((q + 2) % 3)) (q_add (q_mul (nI_lit 3) rfl) rfl) (by omega) (by decide) dX7_minor_49 ?_
  refine lv_lmul hx hb dX7_minor_50 ?_
  refine lv_aload_n hx hb dX7_minor_51 rfl (lv_at hl 4 rfl) ?_
  refine va_get (D := D) (ci := 7) (C := RX7) (T := TX7) (N := 23) hx hb hW inX7 hown hK hP 0 rfl rfl 15 (by decide) (hW _ (wa tw565 rfl)) (fun _ h9 => h9) rfl dX7_minor_52 ?_
  refine lv_iconst (v := 3) hx hb dX7_minor_55 (by decide) ?_
  refine lv_iload_n hx hb dX7_minor_56 rfl (lv_at hl 3 rfl) ?_
  refine lv_imul hx hb dX7_minor_57 ?_
  refine lv_iload hx hb dX7_minor_58 (lv_at hl 0 rfl) ?_
  refine lv_iadd hx hb dX7_minor_60 ?_
  refine xlald hx hb hK hP 11 rfl ((3 * ((r + 1) % 3)) + ((q + 2) % 3)) (q_add (q_mul (nI_lit 3) rfl) rfl) (by omega) (by decide) dX7_minor_61 ?_
  refine lv_aload_n hx hb dX7_minor_62 rfl (lv_at hl 4 rfl) ?_
  refine va_get (D := D) (ci := 7) (C := RX7) (T := TX7) (N := 23) hx hb hW inX7 hown hK hP 0 rfl rfl 15 (by decide) (hW _ (wa tw565 rfl)) (fun _ h9 => h9) rfl dX7_minor_63 ?_
  refine lv_iconst (v := 3) hx hb dX7_minor_66 (by decide) ?_
  refine lv_iload hx hb dX7_minor_67 (lv_at hl 2 rfl) ?_
  refine lv_imul hx hb dX7_minor_69 ?_
  refine lv_iload hx hb dX7_minor_70 (lv_at hl 1 rfl) ?_
  refine lv_iadd hx hb dX7_minor_72 ?_
  refine xlald hx hb hK hP 11 rfl ((3 * ((r + 2) % 3)) + ((q + 1) % 3)) (q_add (q_mul (nI_lit 3) rfl) rfl) (by omega) (by decide) dX7_minor_73 ?_
  refine lv_lmul hx hb dX7_minor_74 ?_
  refine lv_lsub hx hb dX7_minor_75 ?_
  exact W.lret (v := (((Y 0) ((3 * ((r + 1) % 3)) + ((q + 1) % 3))) * ((Y 0) ((3 * ((r + 2) % 3)) + ((q + 2) % 3)))) - (((Y 0) ((3 * ((r + 1) % 3)) + ((q + 2) % 3))) * ((Y 0) ((3 * ((r + 2) % 3)) + ((q + 1) % 3))))) hx hb hr (fun t ht _ => ⟨_, rfl, (by simp only [f7_minor]), ht⟩) (fun q h => by cases h) dX7_minor_76
