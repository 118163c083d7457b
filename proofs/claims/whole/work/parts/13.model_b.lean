def layA (tn : Int32) : Nat → Nat → (Nat → Int64) → Nat → Int64
  | 0, _, S => S
  | n + 1, k, S => layA tn n (k + 1) (vp_updL S k (if tn = 1 then (if nI (k % 4) = 0 then (if nI k ≤ 0 then 0 else 1) else 0) else 0))
def layK (pl : Nat → Int32) (model set : Int32) (nt j : Nat) : Nat → Nat → (Nat → Int64) → Nat → Int64
  | 0, _, S => S
  | n + 1, k, S => if ((set >>> (nI j &&& 31)) &&& 1) = 1 then layK pl model set nt j n (k + 1) (vp_updL S (3 * (k / nt) + k % nt) (S (3 * (k / nt) + k % nt) + f7_term pl model j (k / nt) * f7_term pl model j (k % nt))) else S
def layM (pl : Nat → Int32) (model set : Int32) (nt : Nat) : Nat → Nat → (Nat → Int64) → Nat → Int64
  | 0, _, S => S
  | n + 1, j, S => layM pl model set nt n (j + 1) (layK pl model set nt j (nt * nt) 0 S)
def layT (S : Nat → Int64) : Nat → Nat → (Nat → Int64) → Nat → Int64
  | 0, _, T => T
  | n + 1, k, T => layT S n (k + 1) (vp_updL T k (f7_minor S (k % 3) (k / 3)))
def layS (pl : Nat → Int32) (model set : Int32) (nt N : Nat) (S0 : Nat → Int64) : Nat → Int64 := layM pl model set nt N 0 (layA (f7_termsOf model) 9 0 S0)
def layV (S T0 : Nat → Int64) : Nat → Int64 := layT S 9 0 T0
def layD (S T : Nat → Int64) : Int64 := S 0 * T 0 + S 1 * T 3 + S 2 * T 6
def f7_lay (pl : Nat → Int32) (Y : Nat → Nat → Int64) (model set : Int32) (nt N : Nat) : Nat → Nat → Int64 :=
  uM (uM (uM Y 0 (layS pl model set nt N (Y 0))) 1 (layV (layS pl model set nt N (Y 0)) (Y 1))) 5 (vp_updL (Y 5) 0 (layD (layS pl model set nt N (Y 0)) (layV (layS pl model set nt N (Y 0)) (Y 1))))
def ntOf (model : Int32) : Nat := if model = 0 then 1 else 3
theorem ntOf_eq (model : Int32) : f7_termsOf model = nI (ntOf model) := by
  unfold f7_termsOf ntOf
  split <;> rfl
theorem ntOf_13 (model : Int32) : ntOf model = 1 ∨ ntOf model = 3 := by
  unfold ntOf
  split
  · exact Or.inl rfl
  · exact Or.inr rfl

set_option maxHeartbeats 4000000 in
set_option maxRecDepth 100000 in
theorem kX7_lay (l : Launch) (D : va_G) (C : Nat → ClassId) (a : Nat → Nat) (Z : Nat → Nat → Int32) (Y : Nat → Nat → Int64) (model set : Int32) (sz : Nat) (N : Nat) (hN : Z 12 0 = nI N) (hN12 : N ≤ 12) (nt : Nat) (hnt : f7_termsOf model = nI nt) (hnt3 : nt = 1 ∨ nt = 3) : Wv l D C yX7_lay cX7_lay 6 1 [.ref (a 0), .int model, .int set] (wZ a C Z Y) ((wZ a C Z (f7_lay (Z 0) Y model set nt N))) sz := by
  refine Met.ofW (cc := cX7_lay) (maxL := 6) (ret := none) (by decide) rfl ?_
  intro p e s m args below meth c s₁ B hml hv
  obtain ⟨rfl, hsz, hP, hK, hNw, hD0⟩ := hv
  have hx := B.exec
  have hb := B.bytes
  have hr := B.returns
  have hts := atoms_spec (ws := wm yX7_lay cX7_lay 6 none) B.pre
  have hown : s.vm.findClass RX7 = some m.cls := findClass_of_methodNamed B.named
  have hlocks := B.notSynchronized
  have hW : ∀ w ∈ WA, w.before _ s = true := fun w h => hts w (List.mem_cons_of_mem _ h)
  subst hsz
  have hD := hD0.self (sz := s.heap.size)
  generalize hAe : va_A (wZ a C Z Y) s.heap.size = A at hD ⊢
  have hA : ∀ q : Nat, s.heap.size ≤ q → A q := fun q h => by rw [← hAe]; exact Or.inr h
  have hS : va_S A s.heap s.heap [] := va_S.rf
  have hP : va_P D vwCl [((a 0), .inr (7, [.int (Z 12 0), .ref (a 1), .ref (a 2), .ref (a 3), .ref (a 4), .int (Z 12 1), .ref (a 5), .ref (a 6), .ref (a 7), .ref (a 8), .ref (a 9), .int (Z 12 2), .ref (a 10), .int (Z 12 3), .int (Z 12 4), .ref (a 11), .ref (a 12), .long (Y 5 0), .ref (a 13), .ref (a 14), .ref (a 15), .ref (a 16), .ref (a 17)])), ((a 1), eI C 48 (Z 0)), ((a 2), eI C 24 (Z 1)), ((a 3), eZ C 12 (Z 2)), ((a 4), eZ C 12 (Z 3)), ((a 5), eI C 60 (Z 4)), ((a 6), eI C 60 (Z 5)), ((a 7), eI C 60 (Z 6)), ((a 8), eZ C 60 (Z 7)), ((a 9), eZ C 244 (Z 8)), ((a 10), eI C 24 (Z 9)), ((a 11), eJ C 9 (Y 0)), ((a 12), eJ C 9 (Y 1)), ((a 13), eJ C 3 (Y 2)), ((a 14), eJ C 3 (Y 3)), ((a 15), eJ C 12 (Y 4)), ((a 16), eI C 6 (Z 10)), ((a 17), eI C 4 (Z 11))] s.heap := hP
  have hD : va_D A [((a 0), .inr (7, [.int (Z 12 0), .ref (a 1), .ref (a 2), .ref (a 3), .ref (a 4), .int (Z 12 1), .ref (a 5), .ref (a 6), .ref (a 7), .ref (a 8), .ref (a 9), .int (Z 12 2), .ref (a 10), .int (Z 12 3), .int (Z 12 4), .ref (a 11), .ref (a 12), .long (Y 5 0), .ref (a 13), .ref (a 14), .ref (a 15), .ref (a 16), .ref (a 17)])), ((a 1), eI C 48 (Z 0)), ((a 2), eI C 24 (Z 1)), ((a 3), eZ C 12 (Z 2)), ((a 4), eZ C 12 (Z 3)), ((a 5), eI C 60 (Z 4)), ((a 6), eI C 60 (Z 5)), ((a 7), eI C 60 (Z 6)), ((a 8), eZ C 60 (Z 7)), ((a 9), eZ C 244 (Z 8)), ((a 10), eI C 24 (Z 9)), ((a 11), eJ C 9 (Y 0)), ((a 12), eJ C 9 (Y 1)), ((a 13), eJ C 3 (Y 2)), ((a 14), eJ C 3 (Y 3)), ((a 15), eJ C 12 (Y 4)), ((a 16), eI C 6 (Z 10)), ((a 17), eI C 4 (Z 11))] := hD
  have hl := lv_entry ([.ref (a 0), .int model, .int set]) (n := 6) (Nat.le_of_ble_eq_true rfl)
  rw [lg_entry_eq]
  generalize (lg_sl ([.ref (a 0), .int model, .int set]) ++ List.replicate (6 - (lg_sl ([.ref (a 0), .int model, .int set])).length) Slot.unset).toArray = ls at hl ⊢
  have hl : lv_has ls 6 [(0, .ref (a 0)), (1, .int model), (2, .int set)] := hl
  refine lv_iload_n hx hb dX7_lay_0 rfl (lv_at hl 1 rfl) ?_
  refine xri (r := f7_termsOf model) (rS (As := [.int model]) (n := 1) (rest := []) ⟨hx, hb, hml, hown, hW⟩ (kX7_termsOf l model) (wa tw687 rfl) (wa tw685 rfl) (wa tw686 rfl) (wa tw8 rfl) (by decide +kernel) ⟨Nat.le_of_ble_eq_true rfl, Nat.le_of_ble_eq_true rfl⟩ pS0 hl.1 rfl (Nat.le_of_ble_eq_true rfl) dX7_lay_1 ⟨Nat.le_of_ble_eq_true rfl, Nat.le_of_ble_eq_true rfl⟩ rfl rfl rfl) ?_
  refine lv_istore_n (lv' := [(3, .int (f7_termsOf model)), (0, .ref (a 0)), (1, .int model), (2, .int set)]) hx hb dX7_lay_4 rfl hl (by decide) rfl (fun ls hl => ?_)
  refine lv_iconst (v := 0) hx hb dX7_lay_5 (by decide) ?_
  refine lv_istore (lv' := [(4, .int 0), (3, .int (f7_termsOf model)), (0, .ref (a 0)), (1, .int model), (2, .int set)]) hx hb dX7_lay_6 hl (by decide) rfl (fun ls hl => ?_)
  refine xgen hP hS (fun H locs hP hS => ?_)
  obtain ⟨n8, k, S1, hinv⟩ : ∃ (n8 : Nat) (k : Nat) (S1 : Nat → Int64), (k + n8 = 9) ∧ (layA (f7_termsOf model) n8 k S1 = layA (f7_termsOf model) 9 0 (Y 0)) ∧ lv_has ls 6 [(0, .ref (a 0)), (1, .int model), (2, .int set), (3, .int (f7_termsOf model)), (4, .int (nI k))] ∧ va_P D vwCl [((a 0), .inr (7, [.int (Z 12 0), .ref (a 1), .ref (a 2), .ref (a 3), .ref (a 4), .int (Z 12 1), .ref (a 5), .ref (a 6), .ref (a 7), .ref (a 8), .ref (a 9), .int (Z 12 2), .ref (a 10), .int (Z 12 3), .int (Z 12 4), .ref (a 11), .ref (a 12), .long (Y 5 0), .ref (a 13), .ref (a 14), .ref (a 15), .ref (a 16), .ref (a 17)])), ((a 1), eI C 48 (Z 0)), ((a 2), eI C 24 (Z 1)), ((a 3), eZ C 12 (Z 2)), ((a 4), eZ C 12 (Z 3)), ((a 5), eI C 60 (Z 4)), ((a 6), eI C 60 (Z 5)), ((a 7), eI C 60 (Z 6)), ((a 8), eZ C 60 (Z 7)), ((a 9), eZ C 244 (Z 8)), ((a 10), eI C 24 (Z 9)), ((a 11), eJ C 9 S1), ((a 12), eJ C 9 (Y 1)), ((a 13), eJ C 3 (Y 2)), ((a 14), eJ C 3 (Y 3)), ((a 15), eJ C 12 (Y 4)), ((a 16), eI C 6 (Z 10)), ((a 17), eI C 4 (Z 11))] H ∧ va_D A [((a 0), .inr (7, [.int (Z 12 0), .ref (a 1), .ref (a 2), .ref (a 3), .ref (a 4), .int (Z 12 1), .ref (a 5), .ref (a 6), .ref (a 7), .ref (a 8), .ref (a 9), .int (Z 12 2), .ref (a 10), .int (Z 12 3), .int (Z 12 4), .ref (a 11), .ref (a 12), .long (Y 5 0), .ref (a 13), .ref (a 14), .ref (a 15), .ref (a 16), .ref (a 17)])), ((a 1), eI C 48 (Z 0)), ((a 2), eI C 24 (Z 1)), ((a 3), eZ C 12 (Z 2)), ((a 4), eZ C 12 (Z 3)), ((a 5), eI C 60 (Z 4)), ((a 6), eI C 60 (Z 5)), ((a 7), eI C 60 (Z 6)), ((a 8), eZ C 60 (Z 7)), ((a 9), eZ C 244 (Z 8)), ((a 10), eI C 24 (Z 9)), ((a 11), eJ C 9 S1), ((a 12), eJ C 9 (Y 1)), ((a 13), eJ C 3 (Y 2)), ((a 14), eJ C 3 (Y 3)), ((a 15), eJ C 12 (Y 4)), ((a 16), eI C 6 (Z 10)), ((a 17), eI C 4 (Z 11))] ∧ va_S A s.heap H locs := ⟨9, 0, (Y 0), rfl, rfl, lv_sub hl [2, 3, 4, 1, 0] rfl, hP, hD, hS⟩
  clear hl hP hD hS
  induction n8 generalizing k S1 ls H locs with
  | zero =>
    obtain ⟨h8_0, h8_1, hl, hP, hD, hS⟩ := hinv
    refine lv_iload hx hb dX7_lay_8 (lv_at hl 4 rfl) ?_
    refine lv_bipush (v := 9) hx hb dX7_lay_10 (by decide) ?_
    refine lv_icmp_ge (tgt := 50) hx hb dX7_lay_12 (by decide) (fun c_1 => ?_) (fun c_1 => ?_)
    · have e_S1 : S1 = layA (f7_termsOf model) 9 0 (Y 0) := h8_1
      subst e_S1
      refine lv_iconst (v := 0) hx hb dX7_lay_50 (by decide) ?_
      refine lv_istore (lv' := [(4, .int 0), (0, .ref (a 0)), (1, .int model), (2, .int set), (3, .int (f7_termsOf model))]) hx hb dX7_lay_51 hl (by decide) rfl (fun ls hl => ?_)
      refine xgen hP hS (fun H locs hP hS => ?_)
      obtain ⟨n53, j, S2, hinv⟩ : ∃ (n53 : Nat) (j : Nat) (S2 : Nat → Int64), (j + n53 = N) ∧ (layM (Z 0) model set nt n53 j S2 = layS (Z 0) model set nt N (Y 0)) ∧ lv_has ls 6 [(0, .ref (a 0)), (1, .int model), (2, .int set), (3, .int (f7_termsOf model)), (4, .int (nI j))] ∧ va_P D vwCl [((a 0), .inr (7, [.int (Z 12 0), .ref (a 1), .ref (a 2), .ref (a 3), .ref (a 4), .int (Z 12 1), .ref (a 5), .ref (a 6), .ref (a 7), .ref (a 8), .ref (a 9), .int (Z 12 2), .ref (a 10), .int (Z 12 3), .int (Z 12 4), .ref (a 11), .ref (a 12), .long (Y 5 0), .ref (a 13), .ref (a 14), .ref (a 15), .ref (a 16), .ref (a 17)])), ((a 1), eI C 48 (Z 0)), ((a 2), eI C 24 (Z 1)), ((a 3), eZ C 12 (Z 2)), ((a 4), eZ C 12 (Z 3)), ((a 5), eI C 60 (Z 4)), ((a 6), eI C 60 (Z 5)), ((a 7), eI C 60 (Z 6)), ((a 8), eZ C 60 (Z 7)), ((a 9), eZ C 244 (Z 8)), ((a 10), eI C 24 (Z 9)), ((a 11), eJ C 9 S2), ((a 12), eJ C 9 (Y 1)), ((a 13), eJ C 3 (Y 2)), ((a 14), eJ C 3 (Y 3)), ((a 15), eJ C 12 (Y 4)), ((a 16), eI C 6 (Z 10)), ((a 17), eI C 4 (Z 11))] H ∧ va_D A [((a 0), .inr (7, [.int (Z 12 0), .ref (a 1), .ref (a 2), .ref (a 3), .ref (a 4), .int (Z 12 1), .ref (a 5), .ref (a 6), .ref (a 7), .ref (a 8), .ref (a 9), .int (Z 12 2), .ref (a 10), .int (Z 12 3), .int (Z 12 4), .ref (a 11), .ref (a 12), .long (Y 5 0), .ref (a 13), .ref (a 14), .ref (a 15), .ref (a 16), .ref (a 17)])), ((a 1), eI C 48 (Z 0)), ((a 2), eI C 24 (Z 1)), ((a 3), eZ C 12 (Z 2)), ((a 4), eZ C 12 (Z 3)), ((a 5), eI C 60 (Z 4)), ((a 6), eI C 60 (Z 5)), ((a 7), eI C 60 (Z 6)), ((a 8), eZ C 60 (Z 7)), ((a 9), eZ C 244 (Z 8)), ((a 10), eI C 24 (Z 9)), ((a 11), eJ C 9 S2), ((a 12), eJ C 9 (Y 1)), ((a 13), eJ C 3 (Y 2)), ((a 14), eJ C 3 (Y 3)), ((a 15), eJ C 12 (Y 4)), ((a 16), eI C 6 (Z 10)), ((a 17), eI C 4 (Z 11))] ∧ va_S A s.heap H locs := ⟨N, 0, (layA (f7_termsOf model) 9 0 (Y 0)), by omega, rfl, lv_sub hl [1, 2, 3, 4, 0] rfl, hP, hD, hS⟩
      clear hl hP hD hS
      induction n53 generalizing j S2 ls H locs with
      | zero =>
        obtain ⟨h53_0, h53_1, hl, hP, hD, hS⟩ := hinv
        refine lv_iload hx hb dX7_lay_53 (lv_at hl 4 rfl) ?_
        refine lv_aload_n hx hb dX7_lay_55 rfl (lv_at hl 0 rfl) ?_
        refine va_get (D := D) (ci := 7) (C := RX7) (T := TX7) (N := 23) hx hb hW inX7 hown hK hP 0 rfl rfl 0 (by decide) (hW _ (wa tw550 rfl)) (fun _ h9 => h9) rfl dX7_lay_56 ?_
        refine lv_icmp_ge (tgt := 137) hx hb dX7_lay_59 (by decide) (fun c_2 => ?_) (fun c_2 => ?_)
        · have e_S2 : S2 = layS (Z 0) model set nt N (Y 0) := h53_1
          subst e_S2
          refine lv_iconst (v := 0) hx hb dX7_lay_137 (by decide) ?_
          refine lv_istore (lv' := [(4, .int 0), (0, .ref (a 0)), (1, .int model), (2, .int set), (3, .int (f7_termsOf model))]) hx hb dX7_lay_138 hl (by decide) rfl (fun ls hl => ?_)
          refine xgen hP hS (fun H locs hP hS => ?_)
          obtain ⟨n140, k, Tr, hinv⟩ : ∃ (n140 : Nat) (k : Nat) (Tr : Nat → Int64), (k + n140 = 9) ∧ (layT (layS (Z 0) model set nt N (Y 0)) n140 k Tr = layV (layS (Z 0) model set nt N (Y 0)) (Y 1)) ∧ lv_has ls 6 [(0, .ref (a 0)), (1, .int model), (2, .int set), (3, .int (f7_termsOf model)), (4, .int (nI k))] ∧ va_P D vwCl [((a 0), .inr (7, [.int (Z 12 0), .ref (a 1), .ref (a 2), .ref (a 3), .ref (a 4), .int (Z 12 1), .ref (a 5), .ref (a 6), .ref (a 7), .ref (a 8), .ref (a 9), .int (Z 12 2), .ref (a 10), .int (Z 12 3), .int (Z 12 4), .ref (a 11), .ref (a 12), .long (Y 5 0), .ref (a 13), .ref (a 14), .ref (a 15), .ref (a 16), .ref (a 17)])), ((a 1), eI C 48 (Z 0)), ((a 2), eI C 24 (Z 1)), ((a 3), eZ C 12 (Z 2)), ((a 4), eZ C 12 (Z 3)), ((a 5), eI C 60 (Z 4)), ((a 6), eI C 60 (Z 5)), ((a 7), eI C 60 (Z 6)), ((a 8), eZ C 60 (Z 7)), ((a 9), eZ C 244 (Z 8)), ((a 10), eI C 24 (Z 9)), ((a 11), eJ C 9 (layS (Z 0) model set nt N (Y 0))), ((a 12), eJ C 9 Tr), ((a 13), eJ C 3 (Y 2)), ((a 14), eJ C 3 (Y 3)), ((a 15), eJ C 12 (Y 4)), ((a 16), eI C 6 (Z 10)), ((a 17), eI C 4 (Z 11))] H ∧ va_D A [((a 0), .inr (7, [.int (Z 12 0), .ref (a 1), .ref (a 2), .ref (a 3), .ref (a 4), .int (Z 12 1), .ref (a 5), .ref (a 6), .ref (a 7), .ref (a 8), .ref (a 9), .int (Z 12 2), .ref (a 10), .int (Z 12 3), .int (Z 12 4), .ref (a 11), .ref (a 12), .long (Y 5 0), .ref (a 13), .ref (a 14), .ref (a 15), .ref (a 16), .ref (a 17)])), ((a 1), eI C 48 (Z 0)), ((a 2), eI C 24 (Z 1)), ((a 3), eZ C 12 (Z 2)), ((a 4), eZ C 12 (Z 3)), ((a 5), eI C 60 (Z 4)), ((a 6), eI C 60 (Z 5)), ((a 7), eI C 60 (Z 6)), ((a 8), eZ C 60 (Z 7)), ((a 9), eZ C 244 (Z 8)), ((a 10), eI C 24 (Z 9)), ((a 11), eJ C 9 (layS (Z 0) model set nt N (Y 0))), ((a 12), eJ C 9 Tr), ((a 13), eJ C 3 (Y 2)), ((a 14), eJ C 3 (Y 3)), ((a 15), eJ C 12 (Y 4)), ((a 16), eI C 6 (Z 10)), ((a 17), eI C 4 (Z 11))] ∧ va_S A s.heap H locs := ⟨9, 0, (Y 1), rfl, rfl, lv_sub hl [1, 2, 3, 4, 0] rfl, hP, hD, hS⟩
          clear hl hP hD hS
          induction n140 generalizing k Tr ls H locs with
          | zero =>
            obtain ⟨h140_0, h140_1, hl, hP, hD, hS⟩ := hinv
            refine lv_iload hx hb dX7_lay_140 (lv_at hl 4 rfl) ?_
            refine lv_bipush (v := 9) hx hb dX7_lay_142 (by decide) ?_
            refine lv_icmp_ge (tgt := 172) hx hb dX7_lay_144 (by decide) (fun c_3 => ?_) (fun c_3 => ?_)
            · have e_Tr : Tr = layV (layS (Z 0) model set nt N (Y 0)) (Y 1) := h140_1
              subst e_Tr
              refine lv_aload_n hx hb dX7_lay_172 rfl (lv_at hl 0 rfl) ?_
              refine lv_aload_n hx hb dX7_lay_173 rfl (lv_at hl 0 rfl) ?_
              refine va_get (D := D) (ci := 7) (C := RX7) (T := TX7) (N := 23) hx hb hW inX7 hown hK hP 0 rfl rfl 15 (by decide) (hW _ (wa tw565 rfl)) (fun _ h9 => h9) rfl dX7_lay_174 ?_
              refine lv_iconst (v := 0) hx hb dX7_lay_177 (by decide) ?_
              refine xlald hx hb hK hP 11 rfl 0 (nI_lit 0) (by decide) (by decide) dX7_lay_178 ?_
              refine lv_aload_n hx hb dX7_lay_179 rfl (lv_at hl 0 rfl) ?_
              refine va_get (D := D) (ci := 7) (C := RX7) (T := TX7) (N := 23) hx hb hW inX7 hown hK hP 0 rfl rfl 16 (by decide) (hW _ (wa tw566 rfl)) (fun _ h9 => h9) rfl dX7_lay_180 ?_
              refine lv_iconst (v := 0) hx hb dX7_lay_183 (by decide) ?_
              refine xlald hx hb hK hP 12 rfl 0 (nI_lit 0) (by decide) (by decide) dX7_lay_184 ?_
              refine lv_lmul hx hb dX7_lay_185 ?_
              refine lv_aload_n hx hb dX7_lay_186 rfl (lv_at hl 0 rfl) ?_
              refine va_get (D := D) (ci := 7) (C := RX7) (T := TX7) (N := 23) hx hb hW inX7 hown hK hP 0 rfl rfl 15 (by decide) (hW _ (wa tw565 rfl)) (fun _ h9 => h9) rfl dX7_lay_187 ?_
              refine lv_iconst (v := 1) hx hb dX7_lay_190 (by decide) ?_
              refine xlald hx hb hK hP 11 rfl 1 (nI_lit 1) (by decide) (by decide) dX7_lay_191 ?_
              refine lv_aload_n hx hb dX7_lay_192 rfl (lv_at hl 0 rfl) ?_
              refine va_get (D := D) (ci := 7) (C := RX7) (T := TX7) (N := 23) hx hb hW inX7 hown hK hP 0 rfl rfl 16 (by decide) (hW _ (wa tw566 rfl)) (fun _ h9 => h9) rfl dX7_lay_193 ?_
              refine lv_iconst (v := 3) hx hb dX7_lay_196 (by decide) ?_
              refine xlald hx hb hK hP 12 rfl 3 (nI_lit 3) (by decide) (by decide) dX7_lay_197 ?_
              refine lv_lmul hx hb dX7_lay_198 ?_
              refine lv_ladd hx hb dX7_lay_199 ?_
              refine lv_aload_n hx hb dX7_lay_200 rfl (lv_at hl 0 rfl) ?_
              refine va_get (D := D) (ci := 7) (C := RX7) (T := TX7) (N := 23) hx hb hW inX7 hown hK hP 0 rfl rfl 15 (by decide) (hW _ (wa tw565 rfl)) (fun _ h9 => h9) rfl dX7_lay_201 ?_
              refine lv_iconst (v := 2) hx hb dX7_lay_204 (by decide) ?_
              refine xlald hx hb hK hP 11 rfl 2 (nI_lit 2) (by decide) (by decide) dX7_lay_205 ?_
              refine lv_aload_n hx hb dX7_lay_206 rfl (lv_at hl 0 rfl) ?_
              refine va_get (D := D) (ci := 7) (C := RX7) (T := TX7) (N := 23) hx hb hW inX7 hown hK hP 0 rfl rfl 16 (by decide) (hW _ (wa tw566 rfl)) (fun _ h9 => h9) rfl dX7_lay_207 ?_
              refine lv_bipush (v := 6) hx hb dX7_lay_210 (by decide) ?_
              refine xlald hx hb hK hP 12 rfl 6 (nI_lit 6) (by decide) (by decide) dX7_lay_212 ?_
              refine lv_lmul hx hb dX7_lay_213 ?_
              refine lv_ladd hx hb dX7_lay_214 ?_
              refine va_put (D := D) (v := .long (((((layS (Z 0) model set nt N (Y 0)) 0) * ((layV (layS (Z 0) model set nt N (Y 0)) (Y 1)) 0)) + (((layS (Z 0) model set nt N (Y 0)) 1) * ((layV (layS (Z 0) model set nt N (Y 0)) (Y 1)) 3))) + (((layS (Z 0) model set nt N (Y 0)) 2) * ((layV (layS (Z 0) model set nt N (Y 0)) (Y 1)) 6)))) (ty := .long) (ci := 7) (C := RX7) (T := TX7) (N := 23) hx hb hW inX7 tyX7 tyX7_ok nmX7 hown hK hP hD hS 0 rfl rfl 17 (by decide) (hW _ (wa tw567 rfl)) (fun _ h9 => h9) rfl (by decide +kernel) rfl rfl (Nat.le_of_ble_eq_true rfl) dX7_lay_215 (fun H locs hP hD hS => ?_)
              have hP : va_P D vwCl [((a 0), .inr (7, [.int (Z 12 0), .ref (a 1), .ref (a 2), .ref (a 3), .ref (a 4), .int (Z 12 1), .ref (a 5), .ref (a 6), .ref (a 7), .ref (a 8), .ref (a 9), .int (Z 12 2), .ref (a 10), .int (Z 12 3), .int (Z 12 4), .ref (a 11), .ref (a 12), .long (((((layS (Z 0) model set nt N (Y 0)) 0) * ((layV (layS (Z 0) model set nt N (Y 0)) (Y 1)) 0)) + (((layS (Z 0) model set nt N (Y 0)) 1) * ((layV (layS (Z 0) model set nt N (Y 0)) (Y 1)) 3))) + (((layS (Z 0) model set nt N (Y 0)) 2) * ((layV (layS (Z 0) model set nt N (Y 0)) (Y 1)) 6))), .ref (a 13), .ref (a 14), .ref (a 15), .ref (a 16), .ref (a 17)])), ((a 1), eI C 48 (Z 0)), ((a 2), eI C 24 (Z 1)), ((a 3), eZ C 12 (Z 2)), ((a 4), eZ C 12 (Z 3)), ((a 5), eI C 60 (Z 4)), ((a 6), eI C 60 (Z 5)), ((a 7), eI C 60 (Z 6)), ((a 8), eZ C 60 (Z 7)), ((a 9), eZ C 244 (Z 8)), ((a 10), eI C 24 (Z 9)), ((a 11), eJ C 9 (layS (Z 0) model set nt N (Y 0))), ((a 12), eJ C 9 (layV (layS (Z 0) model set nt N (Y 0)) (Y 1))), ((a 13), eJ C 3 (Y 2)), ((a 14), eJ C 3 (Y 3)), ((a 15), eJ C 12 (Y 4)), ((a 16), eI C 6 (Z 10)), ((a 17), eI C 4 (Z 11))] H := hP
              have hD : va_D A [((a 0), .inr (7, [.int (Z 12 0), .ref (a 1), .ref (a 2), .ref (a 3), .ref (a 4), .int (Z 12 1), .ref (a 5), .ref (a 6), .ref (a 7), .ref (a 8), .ref (a 9), .int (Z 12 2), .ref (a 10), .int (Z 12 3), .int (Z 12 4), .ref (a 11), .ref (a 12), .long (((((layS (Z 0) model set nt N (Y 0)) 0) * ((layV (layS (Z 0) model set nt N (Y 0)) (Y 1)) 0)) + (((layS (Z 0) model set nt N (Y 0)) 1) * ((layV (layS (Z 0) model set nt N (Y 0)) (Y 1)) 3))) + (((layS (Z 0) model set nt N (Y 0)) 2) * ((layV (layS (Z 0) model set nt N (Y 0)) (Y 1)) 6))), .ref (a 13), .ref (a 14), .ref (a 15), .ref (a 16), .ref (a 17)])), ((a 1), eI C 48 (Z 0)), ((a 2), eI C 24 (Z 1)), ((a 3), eZ C 12 (Z 2)), ((a 4), eZ C 12 (Z 3)), ((a 5), eI C 60 (Z 4)), ((a 6), eI C 60 (Z 5)), ((a 7), eI C 60 (Z 6)), ((a 8), eZ C 60 (Z 7)), ((a 9), eZ C 244 (Z 8)), ((a 10), eI C 24 (Z 9)), ((a 11), eJ C 9 (layS (Z 0) model set nt N (Y 0))), ((a 12), eJ C 9 (layV (layS (Z 0) model set nt N (Y 0)) (Y 1))), ((a 13), eJ C 3 (Y 2)), ((a 14), eJ C 3 (Y 3)), ((a 15), eJ C 12 (Y 4)), ((a 16), eI C 6 (Z 10)), ((a 17), eI C 4 (Z 11))] := hD
              have hP9 : va_P D vwCl ((wZ a C Z (f7_lay (Z 0) Y model set nt N))) H := hP
              have hD9 : va_D A ((wZ a C Z (f7_lay (Z 0) Y model set nt N))) := hD
              exact W.vret hx hb hr (fun t ht _ => ⟨⟨(), rfl, trivial, ⟨by rw [ht]; exact hP9, by rw [hAe]; exact hD9⟩⟩, hS.F ht⟩) hS.2.2 dX7_lay_218
            · exact absurd (q_le (nI_lit 9) rfl (by rcases hnt3 with rfl | rfl <;> omega) (by rcases hnt3 with rfl | rfl <;> omega)) c_3
          | succ n140 ih140 =>
            obtain ⟨h140_0, h140_1, hl, hP, hD, hS⟩ := hinv
            refine lv_iload hx hb dX7_lay_140 (lv_at hl 4 rfl) ?_
            refine lv_bipush (v := 9) hx hb dX7_lay_142 (by decide) ?_
            refine lv_icmp_ge (tgt := 172) hx hb dX7_lay_144 (by decide) (fun c_4 => ?_) (fun c_4 => ?_)
            · exact absurd c_4 (q_nle (nI_lit 9) rfl (by rcases hnt3 with rfl | rfl <;> omega) (by rcases hnt3 with rfl | rfl <;> omega))
            · refine lv_aload_n hx hb dX7_lay_147 rfl (lv_at hl 0 rfl) ?_
              refine va_get (D := D) (ci := 7) (C := RX7) (T := TX7) (N := 23) hx hb hW inX7 hown hK hP 0 rfl rfl 16 (by decide) (hW _ (wa tw566 rfl)) (fun _ h9 => h9) rfl dX7_lay_148 ?_
              refine lv_iload hx hb dX7_lay_151 (lv_at hl 4 rfl) ?_
              refine lv_aload_n hx hb dX7_lay_153 rfl (lv_at hl 0 rfl) ?_
              refine lv_iload hx hb dX7_lay_154 (lv_at hl 4 rfl) ?_
              refine lv_iconst (v := 3) hx hb dX7_lay_156 (by decide) ?_
              refine lv_irem hx hb dX7_lay_157 (by decide) ?_
              refine xtopi (y := nI (k % 3)) (q_rem rfl (nI_lit 3) (by rcases hnt3 with rfl | rfl <;> omega) (by rcases hnt3 with rfl | rfl <;> omega) (by rcases hnt3 with rfl | rfl <;> omega)) ?_
              refine lv_iload hx hb dX7_lay_158 (lv_at hl 4 rfl) ?_
              refine lv_iconst (v := 3) hx hb dX7_lay_160 (by decide) ?_
              refine lv_idiv hx hb dX7_lay_161 (by decide) ?_
              refine xtopi (y := nI (k / 3)) (q_div rfl (nI_lit 3) (by rcases hnt3 with rfl | rfl <;> omega) (by rcases hnt3 with rfl | rfl <;> omega) (by rcases hnt3 with rfl | rfl <;> omega)) ?_
              refine xrl (r := f7_minor (layS (Z 0) model set nt N (Y 0)) (k % 3) (k / 3)) (rV (As := [.int (nI (k % 3)), .int (nI (k / 3))]) (n := 2) (rest := [.int (nI k), .ref (a 12)]) ⟨hx, hb, hml, hown, hW⟩ (kX7_minor l D C a Z (uM (uM Y 0 (layS (Z 0) model set nt N (Y 0))) 1 Tr) (k % 3) (k / 3) (by omega) (by omega)) (wa tw695 rfl) (wa tw692 rfl) (wa tw694 rfl) (was ts43 rfl) (wa tw8 rfl) (by decide +kernel) ⟨Nat.le_of_ble_eq_true rfl, Nat.le_of_ble_eq_true rfl⟩ (pVr hP hK hNw 0 rfl rfl) hl.1 rfl (Nat.le_of_ble_eq_true rfl) dX7_lay_162 ⟨Nat.le_of_ble_eq_true rfl, Nat.le_of_ble_eq_true rfl⟩ rfl rfl rfl) ?_
              refine xlast hx hb hK hP hD hS 12 rfl k rfl (by rcases hnt3 with rfl | rfl <;> omega) (by decide) dX7_lay_165 (fun H locs hP hD hS => ?_)
              have hP : va_P D vwCl [((a 0), .inr (7, [.int (Z 12 0), .ref (a 1), .ref (a 2), .ref (a 3), .ref (a 4), .int (Z 12 1), .ref (a 5), .ref (a 6), .ref (a 7), .ref (a 8), .ref (a 9), .int (Z 12 2), .ref (a 10), .int (Z 12 3), .int (Z 12 4), .ref (a 11), .ref (a 12), .long (Y 5 0), .ref (a 13), .ref (a 14), .ref (a 15), .ref (a 16), .ref (a 17)])), ((a 1), eI C 48 (Z 0)), ((a 2), eI C 24 (Z 1)), ((a 3), eZ C 12 (Z 2)), ((a 4), eZ C 12 (Z 3)), ((a 5), eI C 60 (Z 4)), ((a 6), eI C 60 (Z 5)), ((a 7), eI C 60 (Z 6)), ((a 8), eZ C 60 (Z 7)), ((a 9), eZ C 244 (Z 8)), ((a 10), eI C 24 (Z 9)), ((a 11), eJ C 9 (layS (Z 0) model set nt N (Y 0))), ((a 12), eJ C 9 (vp_updL Tr k (f7_minor (layS (Z 0) model set nt N (Y 0)) (k % 3) (k / 3)))), ((a 13), eJ C 3 (Y 2)), ((a 14), eJ C 3 (Y 3)), ((a 15), eJ C 12 (Y 4)), ((a 16), eI C 6 (Z 10)), ((a 17), eI C 4 (Z 11))] H := hP
              have hD : va_D A [((a 0), .inr (7, [.int (Z 12 0), .ref (a 1), .ref (a 2), .ref (a 3), .ref (a 4), .int (Z 12 1), .ref (a 5), .ref (a 6), .ref (a 7), .ref (a 8), .ref (a 9), .int (Z 12 2), .ref (a 10), .int (Z 12 3), .int (Z 12 4), .ref (a 11), .ref (a 12), .long (Y 5 0), .ref (a 13), .ref (a 14), .ref (a 15), .ref (a 16), .ref (a 17)])), ((a 1), eI C 48 (Z 0)), ((a 2), eI C 24 (Z 1)), ((a 3), eZ C 12 (Z 2)), ((a 4), eZ C 12 (Z 3)), ((a 5), eI C 60 (Z 4)), ((a 6), eI C 60 (Z 5)), ((a 7), eI C 60 (Z 6)), ((a 8), eZ C 60 (Z 7)), ((a 9), eZ C 244 (Z 8)), ((a 10), eI C 24 (Z 9)), ((a 11), eJ C 9 (layS (Z 0) model set nt N (Y 0))), ((a 12), eJ C 9 (vp_updL Tr k (f7_minor (layS (Z 0) model set nt N (Y 0)) (k % 3) (k / 3)))), ((a 13), eJ C 3 (Y 2)), ((a 14), eJ C 3 (Y 3)), ((a 15), eJ C 12 (Y 4)), ((a 16), eI C 6 (Z 10)), ((a 17), eI C 4 (Z 11))] := hD
              refine lv_iinc (v := nI k + 1) (lv' := [(4, .int (nI k + 1)), (0, .ref (a 0)), (1, .int model), (2, .int set), (3, .int (f7_termsOf model))]) hx hb dX7_lay_166 hl (k := 4) rfl rfl (by decide) rfl (fun ls hl => ?_)
              refine lv_goto (tgt := 140) hx hb dX7_lay_169 (by decide) ?_
              rw [nI_1] at hl
              exact ih140 (k := k + 1) (Tr := (vp_updL Tr k (f7_minor (layS (Z 0) model set nt N (Y 0)) (k % 3) (k / 3)))) (ls := ls) (H := H) (locs := locs) ⟨by omega, h140_1, lv_sub hl [1, 2, 3, 4, 0] rfl, hP, hD, hS⟩
        · exact absurd (q_le hN rfl (by rcases hnt3 with rfl | rfl <;> omega) (by rcases hnt3 with rfl | rfl <;> omega)) c_2
      | succ n53 ih53 =>
        obtain ⟨h53_0, h53_1, hl, hP, hD, hS⟩ := hinv
        refine lv_iload hx hb dX7_lay_53 (lv_at hl 4 rfl) ?_
        refine lv_aload_n hx hb dX7_lay_55 rfl (lv_at hl 0 rfl) ?_
        refine va_get (D := D) (ci := 7) (C := RX7) (T := TX7) (N := 23) hx hb hW inX7 hown hK hP 0 rfl rfl 0 (by decide) (hW _ (wa tw550 rfl)) (fun _ h9 => h9) rfl dX7_lay_56 ?_
        refine lv_icmp_ge (tgt := 137) hx hb dX7_lay_59 (by decide) (fun c_5 => ?_) (fun c_5 => ?_)
        · exact absurd c_5 (q_nle hN rfl (by rcases hnt3 with rfl | rfl <;> omega) (by rcases hnt3 with rfl | rfl <;> omega))
        · refine lv_iconst (v := 0) hx hb dX7_lay_62 (by decide) ?_
          refine lv_istore (lv' := [(5, .int 0), (0, .ref (a 0)), (1, .int model), (2, .int set), (3, .int (f7_termsOf model)), (4, .int (nI j))]) hx hb dX7_lay_63 hl (by decide) rfl (fun ls hl => ?_)
          refine xgen hP hS (fun H locs hP hS => ?_)
          obtain ⟨n65, k, S3, hinv⟩ : ∃ (n65 : Nat) (k : Nat) (S3 : Nat → Int64), (k + n65 = nt * nt) ∧ (layK (Z 0) model set nt j n65 k S3 = layK (Z 0) model set nt j (nt * nt) 0 S2) ∧ lv_has ls 6 [(0, .ref (a 0)), (1, .int model), (2, .int set), (3, .int (f7_termsOf model)), (4, .int (nI j)), (5, .int (nI k))] ∧ va_P D vwCl [((a 0), .inr (7, [.int (Z 12 0), .ref (a 1), .ref (a 2), .ref (a 3), .ref (a 4), .int (Z 12 1), .ref (a 5), .ref (a 6), .ref (a 7), .ref (a 8), .ref (a 9), .int (Z 12 2), .ref (a 10), .int (Z 12 3), .int (Z 12 4), .ref (a 11), .ref (a 12), .long (Y 5 0), .ref (a 13), .ref (a 14), .ref (a 15), .ref (a 16), .ref (a 17)])), ((a 1), eI C 48 (Z 0)), ((a 2), eI C 24 (Z 1)), ((a 3), eZ C 12 (Z 2)), ((a 4), eZ C 12 (Z 3)), ((a 5), eI C 60 (Z 4)), ((a 6), eI C 60 (Z 5)), ((a 7), eI C 60 (Z 6)), ((a 8), eZ C 60 (Z 7)), ((a 9), eZ C 244 (Z 8)), ((a 10), eI C 24 (Z 9)), ((a 11), eJ C 9 S3), ((a 12), eJ C 9 (Y 1)), ((a 13), eJ C 3 (Y 2)), ((a 14), eJ C 3 (Y 3)), ((a 15), eJ C 12 (Y 4)), ((a 16), eI C 6 (Z 10)), ((a 17), eI C 4 (Z 11))] H ∧ va_D A [((a 0), .inr (7, [.int (Z 12 0), .ref (a 1), .ref (a 2), .ref (a 3), .ref (a 4), .int (Z 12 1), .ref (a 5), .ref (a 6), .ref (a 7), .ref (a 8), .ref (a 9), .int (Z 12 2), .ref (a 10), .int (Z 12 3), .int (Z 12 4), .ref (a 11), .ref (a 12), .long (Y 5 0), .ref (a 13), .ref (a 14), .ref (a 15), .ref (a 16), .ref (a 17)])), ((a 1), eI C 48 (Z 0)), ((a 2), eI C 24 (Z 1)), ((a 3), eZ C 12 (Z 2)), ((a 4), eZ C 12 (Z 3)), ((a 5), eI C 60 (Z 4)), ((a 6), eI C 60 (Z 5)), ((a 7), eI C 60 (Z 6)), ((a 8), eZ C 60 (Z 7)), ((a 9), eZ C 244 (Z 8)), ((a 10), eI C 24 (Z 9)), ((a 11), eJ C 9 S3), ((a 12), eJ C 9 (Y 1)), ((a 13), eJ C 3 (Y 2)), ((a 14), eJ C 3 (Y 3)), ((a 15), eJ C 12 (Y 4)), ((a 16), eI C 6 (Z 10)), ((a 17), eI C 4 (Z 11))] ∧ va_S A s.heap H locs := ⟨nt * nt, 0, S2, by omega, rfl, lv_sub hl [1, 2, 3, 4, 5, 0] rfl, hP, hD, hS⟩
          clear hl hP hD hS
          induction n65 generalizing k S3 ls H locs with
          | zero =>
            obtain ⟨h65_0, h65_1, hl, hP, hD, hS⟩ := hinv
            refine lv_iload hx hb dX7_lay_65 (lv_at hl 5 rfl) ?_
            refine lv_iload_n hx hb dX7_lay_67 rfl (lv_at hl 3 rfl) ?_
            refine lv_iload_n hx hb dX7_lay_68 rfl (lv_at hl 3 rfl) ?_
            refine lv_imul hx hb dX7_lay_69 ?_
            refine lv_icmp_ge (tgt := 131) hx hb dX7_lay_70 (by decide) (fun c_6 => ?_) (fun c_6 => ?_)
            · have e_S3 : S3 = layK (Z 0) model set nt j (nt * nt) 0 S2 := h65_1
              subst e_S3
              refine lv_iinc (v := nI j + 1) (lv' := [(4, .int (nI j + 1)), (0, .ref (a 0)), (1, .int model), (2, .int set), (3, .int (f7_termsOf model)), (5, .int (nI k))]) hx hb dX7_lay_131 hl (k := 4) rfl rfl (by decide) rfl (fun ls hl => ?_)
              refine lv_goto (tgt := 53) hx hb dX7_lay_134 (by decide) ?_
              rw [nI_1] at hl
              exact ih53 (j := j + 1) (S2 := (layK (Z 0) model set nt j (nt * nt) 0 S2)) (ls := ls) (H := H) (locs := locs) ⟨by omega, h53_1, lv_sub hl [1, 2, 3, 4, 0] rfl, hP, hD, hS⟩
            · exact absurd (q_le (q_mul hnt hnt) rfl (by rcases hnt3 with rfl | rfl <;> omega) (by rcases hnt3 with rfl | rfl <;> omega)) c_6
          | succ n65 ih65 =>
            obtain ⟨h65_0, h65_1, hl, hP, hD, hS⟩ := hinv
            refine lv_iload hx hb dX7_lay_65 (lv_at hl 5 rfl) ?_
            refine lv_iload_n hx hb dX7_lay_67 rfl (lv_at hl 3 rfl) ?_
            refine lv_iload_n hx hb dX7_lay_68 rfl (lv_at hl 3 rfl) ?_
            refine lv_imul hx hb dX7_lay_69 ?_
            refine lv_icmp_ge (tgt := 131) hx hb dX7_lay_70 (by decide) (fun c_7 => ?_) (fun c_7 => ?_)
            · exact absurd c_7 (q_nle (q_mul hnt hnt) rfl (by rcases hnt3 with rfl | rfl <;> omega) (by rcases hnt3 with rfl | rfl <;> omega))
            · refine lv_iload_n hx hb dX7_lay_73 rfl (lv_at hl 2 rfl) ?_
              refine lv_iload hx hb dX7_lay_74 (lv_at hl 4 rfl) ?_
              refine lv_ishr hx hb dX7_lay_76 ?_
              refine lv_iconst (v := 1) hx hb dX7_lay_77 (by decide) ?_
              refine lv_iand hx hb dX7_lay_78 ?_
              refine lv_iconst (v := 1) hx hb dX7_lay_79 (by decide) ?_
              refine lv_icmp_ne (tgt := 131) hx hb dX7_lay_80 (by decide) (fun c_8 => ?_) (fun c_8 => ?_)
              · have e_S3 : S3 = layK (Z 0) model set nt j (nt * nt) 0 S2 := by rw [← h65_1, layK, if_neg c_8]
                subst e_S3
                refine lv_iinc (v := nI j + 1) (lv' := [(4, .int (nI j + 1)), (0, .ref (a 0)), (1, .int model), (2, .int set), (3, .int (f7_termsOf model)), (5, .int (nI k))]) hx hb dX7_lay_131 hl (k := 4) rfl rfl (by decide) rfl (fun ls hl => ?_)
                refine lv_goto (tgt := 53) hx hb dX7_lay_134 (by decide) ?_
                rw [nI_1] at hl
                exact ih53 (j := j + 1) (S2 := (layK (Z 0) model set nt j (nt * nt) 0 S2)) (ls := ls) (H := H) (locs := locs) ⟨by omega, h53_1, lv_sub hl [1, 2, 3, 4, 0] rfl, hP, hD, hS⟩
              · refine lv_aload_n hx hb dX7_lay_83 rfl (lv_at hl 0 rfl) ?_
                refine va_get (D := D) (ci := 7) (C := RX7) (T := TX7) (N := 23) hx hb hW inX7 hown hK hP 0 rfl rfl 15 (by decide) (hW _ (wa tw565 rfl)) (fun _ h9 => h9) rfl dX7_lay_84 ?_
                refine lv_iconst (v := 3) hx hb dX7_lay_87 (by decide) ?_
                refine lv_iload hx hb dX7_lay_88 (lv_at hl 5 rfl) ?_
                refine lv_iload_n hx hb dX7_lay_90 rfl (lv_at hl 3 rfl) ?_
                refine lv_idiv hx hb dX7_lay_91 (q_ne0 hnt (by rcases hnt3 with rfl | rfl <;> omega) (by rcases hnt3 with rfl | rfl <;> omega)) ?_
                refine xtopi (y := nI (k / nt)) (q_div rfl hnt (by rcases hnt3 with rfl | rfl <;> omega) (by rcases hnt3 with rfl | rfl <;> omega) (by rcases hnt3 with rfl | rfl <;> omega)) ?_
                refine lv_imul hx hb dX7_lay_92 ?_
                refine lv_iload hx hb dX7_lay_93 (lv_at hl 5 rfl) ?_
                refine lv_iload_n hx hb dX7_lay_95 rfl (lv_at hl 3 rfl) ?_
                refine lv_irem hx hb dX7_lay_96 (q_ne0 hnt (by rcases hnt3 with rfl | rfl <;> omega) (by rcases hnt3 with rfl | rfl <;> omega)) ?_
                refine xtopi (y := nI (k % nt)) (q_rem rfl hnt (by rcases hnt3 with rfl | rfl <;> omega) (by rcases hnt3 with rfl | rfl <;> omega) (by rcases hnt3 with rfl | rfl <;> omega)) ?_
                refine lv_iadd hx hb dX7_lay_97 ?_
                refine lv_dup2_11 hx hb dX7_lay_98 rfl rfl ?_
                refine xlald hx hb hK hP 11 rfl ((3 * (k / nt)) + (k % nt)) (q_add (q_mul (nI_lit 3) rfl) rfl) (by rcases hnt3 with rfl | rfl <;> omega) (by decide) dX7_lay_99 ?_
                refine lv_aload_n hx hb dX7_lay_100 rfl (lv_at hl 0 rfl) ?_
                refine lv_iload_n hx hb dX7_lay_101 rfl (lv_at hl 1 rfl) ?_
                refine lv_iload hx hb dX7_lay_102 (lv_at hl 4 rfl) ?_
                refine lv_iload hx hb dX7_lay_104 (lv_at hl 5 rfl) ?_
                refine lv_iload_n hx hb dX7_lay_106 rfl (lv_at hl 3 rfl) ?_
                refine lv_idiv hx hb dX7_lay_107 (q_ne0 hnt (by rcases hnt3 with rfl | rfl <;> omega) (by rcases hnt3 with rfl | rfl <;> omega)) ?_
                refine xtopi (y := nI (k / nt)) (q_div rfl hnt (by rcases hnt3 with rfl | rfl <;> omega) (by rcases hnt3 with rfl | rfl <;> omega) (by rcases hnt3 with rfl | rfl <;> omega)) ?_
                refine xrl (r := f7_term (Z 0) model j (k / nt)) (rV (As := [.int model, .int (nI j), .int (nI (k / nt))]) (n := 3) (rest := [.long (S3 ((3 * (k / nt)) + (k % nt))), .int ((3 * (nI (k / nt))) + (nI (k % nt))), .ref (a 11)]) ⟨hx, hb, hml, hown, hW⟩ (kX7_term l D C a Z (uM Y 0 S3) model j (k / nt) (by rcases hnt3 with rfl | rfl <;> omega) (by rcases hnt3 with rfl | rfl <;> omega)) (wa tw691 rfl) (wa tw688 rfl) (wa tw690 rfl) (was ts42 rfl) (wa tw8 rfl) (by decide +kernel) ⟨Nat.le_of_ble_eq_true rfl, Nat.le_of_ble_eq_true rfl⟩ (pVr hP hK hNw 0 rfl rfl) hl.1 rfl (Nat.le_of_ble_eq_true rfl) dX7_lay_108 ⟨Nat.le_of_ble_eq_true rfl, Nat.le_of_ble_eq_true rfl⟩ rfl rfl rfl) ?_
                refine lv_aload_n hx hb dX7_lay_111 rfl (lv_at hl 0 rfl) ?_
                refine lv_iload_n hx hb dX7_lay_112 rfl (lv_at hl 1 rfl) ?_
                refine lv_iload hx hb dX7_lay_113 (lv_at hl 4 rfl) ?_
                refine lv_iload hx hb dX7_lay_115 (lv_at hl 5 rfl) ?_
                refine lv_iload_n hx hb dX7_lay_117 rfl (lv_at hl 3 rfl) ?_
                refine lv_irem hx hb dX7_lay_118 (q_ne0 hnt (by rcases hnt3 with rfl | rfl <;> omega) (by rcases hnt3 with rfl | rfl <;> omega)) ?_
                refine xtopi (y := nI (k % nt)) (q_rem rfl hnt (by rcases hnt3 with rfl | rfl <;> omega) (by rcases hnt3 with rfl | rfl <;> omega) (by rcases hnt3 with rfl | rfl <;> omega)) ?_
                refine xrl (r := f7_term (Z 0) model j (k % nt)) (rV (As := [.int model, .int (nI j), .int (nI (k % nt))]) (n := 3) (rest := [.long (f7_term (Z 0) model j (k / nt)), .long (S3 ((3 * (k / nt)) + (k % nt))), .int ((3 * (nI (k / nt))) + (nI (k % nt))), .ref (a 11)]) ⟨hx, hb, hml, hown, hW⟩ (kX7_term l D C a Z (uM Y 0 S3) model j (k % nt) (by rcases hnt3 with rfl | rfl <;> omega) (by rcases hnt3 with rfl | rfl <;> omega)) (wa tw691 rfl) (wa tw688 rfl) (wa tw690 rfl) (was ts42 rfl) (wa tw8 rfl) (by decide +kernel) ⟨Nat.le_of_ble_eq_true rfl, Nat.le_of_ble_eq_true rfl⟩ (pVr hP hK hNw 0 rfl rfl) hl.1 rfl (Nat.le_of_ble_eq_true rfl) dX7_lay_119 ⟨Nat.le_of_ble_eq_true rfl, Nat.le_of_ble_eq_true rfl⟩ rfl rfl rfl) ?_
                refine lv_lmul hx hb dX7_lay_122 ?_
                refine lv_ladd hx hb dX7_lay_123 ?_
                refine xlast hx hb hK hP hD hS 11 rfl ((3 * (k / nt)) + (k % nt)) (q_add (q_mul (nI_lit 3) rfl) rfl) (by rcases hnt3 with rfl | rfl <;> omega) (by decide) dX7_lay_124 (fun H locs hP hD hS => ?_)
                have hP : va_P D vwCl [((a 0), .inr (7, [.int (Z 12 0), .ref (a 1), .ref (a 2), .ref (a 3), .ref (a 4), .int (Z 12 1), .ref (a 5), .ref (a 6), .ref (a 7), .ref (a 8), .ref (a 9), .int (Z 12 2), .ref (a 10), .int (Z 12 3), .int (Z 12 4), .ref (a 11), .ref (a 12), .long (Y 5 0), .ref (a 13), .ref (a 14), .ref (a 15), .ref (a 16), .ref (a 17)])), ((a 1), eI C 48 (Z 0)), ((a 2), eI C 24 (Z 1)), ((a 3), eZ C 12 (Z 2)), ((a 4), eZ C 12 (Z 3)), ((a 5), eI C 60 (Z 4)), ((a 6), eI C 60 (Z 5)), ((a 7), eI C 60 (Z 6)), ((a 8), eZ C 60 (Z 7)), ((a 9), eZ C 244 (Z 8)), ((a 10), eI C 24 (Z 9)), ((a 11), eJ C 9 (vp_updL S3 ((3 * (k / nt)) + (k % nt)) ((S3 ((3 * (k / nt)) + (k % nt))) + ((f7_term (Z 0) model j (k / nt)) * (f7_term (Z 0) model j (k % nt)))))), ((a 12), eJ C 9 (Y 1)), ((a 13), eJ C 3 (Y 2)), ((a 14), eJ C 3 (Y 3)), ((a 15), eJ C 12 (Y 4)), ((a 16), eI C 6 (Z 10)), ((a 17), eI C 4 (Z 11))] H := hP
                have hD : va_D A [((a 0), .inr (7, [.int (Z 12 0), .ref (a 1), .ref (a 2), .ref (a 3), .ref (a 4), .int (Z 12 1), .ref (a 5), .ref (a 6), .ref (a 7), .ref (a 8), .ref (a 9), .int (Z 12 2), .ref (a 10), .int (Z 12 3), .int (Z 12 4), .ref (a 11), .ref (a 12), .long (Y 5 0), .ref (a 13), .ref (a 14), .ref (a 15), .ref (a 16), .ref (a 17)])), ((a 1), eI C 48 (Z 0)), ((a 2), eI C 24 (Z 1)), ((a 3), eZ C 12 (Z 2)), ((a 4), eZ C 12 (Z 3)), ((a 5), eI C 60 (Z 4)), ((a 6), eI C 60 (Z 5)), ((a 7), eI C 60 (Z 6)), ((a 8), eZ C 60 (Z 7)), ((a 9), eZ C 244 (Z 8)), ((a 10), eI C 24 (Z 9)), ((a 11), eJ C 9 (vp_updL S3 ((3 * (k / nt)) + (k % nt)) ((S3 ((3 * (k / nt)) + (k % nt))) + ((f7_term (Z 0) model j (k / nt)) * (f7_term (Z 0) model j (k % nt)))))), ((a 12), eJ C 9 (Y 1)), ((a 13), eJ C 3 (Y 2)), ((a 14), eJ C 3 (Y 3)), ((a 15), eJ C 12 (Y 4)), ((a 16), eI C 6 (Z 10)), ((a 17), eI C 4 (Z 11))] := hD
                refine lv_iinc (v := nI k + 1) (lv' := [(5, .int (nI k + 1)), (0, .ref (a 0)), (1, .int model), (2, .int set), (3, .int (f7_termsOf model)), (4, .int (nI j))]) hx hb dX7_lay_125 hl (k := 5) rfl rfl (by decide) rfl (fun ls hl => ?_)
                refine lv_goto (tgt := 65) hx hb dX7_lay_128 (by decide) ?_
                rw [nI_1] at hl
                exact ih65 (k := k + 1) (S3 := (vp_updL S3 ((3 * (k / nt)) + (k % nt)) ((S3 ((3 * (k / nt)) + (k % nt))) + ((f7_term (Z 0) model j (k / nt)) * (f7_term (Z 0) model j (k % nt)))))) (ls := ls) (H := H) (locs := locs) ⟨by omega, by rw [← h65_1, layK, if_pos c_8], lv_sub hl [1, 2, 3, 4, 5, 0] rfl, hP, hD, hS⟩
    · exact absurd (q_le (nI_lit 9) rfl (by rcases hnt3 with rfl | rfl <;> omega) (by rcases hnt3 with rfl | rfl <;> omega)) c_1
  | succ n8 ih8 =>
    obtain ⟨h8_0, h8_1, hl, hP, hD, hS⟩ := hinv
    refine lv_iload hx hb dX7_lay_8 (lv_at hl 4 rfl) ?_
    refine lv_bipush (v := 9) hx hb dX7_lay_10 (by decide) ?_
    refine lv_icmp_ge (tgt := 50) hx hb dX7_lay_12 (by decide) (fun c_9 => ?_) (fun c_9 => ?_)
    · exact absurd c_9 (q_nle (nI_lit 9) rfl (by rcases hnt3 with rfl | rfl <;> omega) (by rcases hnt3 with rfl | rfl <;> omega))
    · refine lv_aload_n hx hb dX7_lay_15 rfl (lv_at hl 0 rfl) ?_
      refine va_get (D := D) (ci := 7) (C := RX7) (T := TX7) (N := 23) hx hb hW inX7 hown hK hP 0 rfl rfl 15 (by decide) (hW _ (wa tw565 rfl)) (fun _ h9 => h9) rfl dX7_lay_16 ?_
      refine lv_iload hx hb dX7_lay_19 (lv_at hl 4 rfl) ?_
      refine lv_iload_n hx hb dX7_lay_21 rfl (lv_at hl 3 rfl) ?_
      refine lv_iconst (v := 1) hx hb dX7_lay_22 (by decide) ?_
      refine lv_icmp_ne (tgt := 42) hx hb dX7_lay_23 (by decide) (fun c_10 => ?_) (fun c_10 => ?_)
      · refine lv_lconst (v := 0) hx hb dX7_lay_42 (by decide) ?_
        refine xlast hx hb hK hP hD hS 11 rfl k rfl (by rcases hnt3 with rfl | rfl <;> omega) (by decide) dX7_lay_43 (fun H locs hP hD hS => ?_)
        have hP : va_P D vwCl [((a 0), .inr (7, [.int (Z 12 0), .ref (a 1), .ref (a 2), .ref (a 3), .ref (a 4), .int (Z 12 1), .ref (a 5), .ref (a 6), .ref (a 7), .ref (a 8), .ref (a 9), .int (Z 12 2), .ref (a 10), .int (Z 12 3), .int (Z 12 4), .ref (a 11), .ref (a 12), .long (Y 5 0), .ref (a 13), .ref (a 14), .ref (a 15), .ref (a 16), .ref (a 17)])), ((a 1), eI C 48 (Z 0)), ((a 2), eI C 24 (Z 1)), ((a 3), eZ C 12 (Z 2)), ((a 4), eZ C 12 (Z 3)), ((a 5), eI C 60 (Z 4)), ((a 6), eI C 60 (Z 5)), ((a 7), eI C 60 (Z 6)), ((a 8), eZ C 60 (Z 7)), ((a 9), eZ C 244 (Z 8)), ((a 10), eI C 24 (Z 9)), ((a 11), eJ C 9 (vp_updL S1 k 0)), ((a 12), eJ C 9 (Y 1)), ((a 13), eJ C 3 (Y 2)), ((a 14), eJ C 3 (Y 3)), ((a 15), eJ C 12 (Y 4)), ((a 16), eI C 6 (Z 10)), ((a 17), eI C 4 (Z 11))] H := hP
        have hD : va_D A [((a 0), .inr (7, [.int (Z 12 0), .ref (a 1), .ref (a 2), .ref (a 3), .ref (a 4), .int (Z 12 1), .ref (a 5), .ref (a 6), .ref (a 7), .ref (a 8), .ref (a 9), .int (Z 12 2), .ref (a 10), .int (Z 12 3), .int (Z 12 4), .ref (a 11), .ref (a 12), .long (Y 5 0), .ref (a 13), .ref (a 14), .ref (a 15), .ref (a 16), .ref (a 17)])), ((a 1), eI C 48 (Z 0)), ((a 2), eI C 24 (Z 1)), ((a 3), eZ C 12 (Z 2)), ((a 4), eZ C 12 (Z 3)), ((a 5), eI C 60 (Z 4)), ((a 6), eI C 60 (Z 5)), ((a 7), eI C 60 (Z 6)), ((a 8), eZ C 60 (Z 7)), ((a 9), eZ C 244 (Z 8)), ((a 10), eI C 24 (Z 9)), ((a 11), eJ C 9 (vp_updL S1 k 0)), ((a 12), eJ C 9 (Y 1)), ((a 13), eJ C 3 (Y 2)), ((a 14), eJ C 3 (Y 3)), ((a 15), eJ C 12 (Y 4)), ((a 16), eI C 6 (Z 10)), ((a 17), eI C 4 (Z 11))] := hD
        refine lv_iinc (v := nI k + 1) (lv' := [(4, .int (nI k + 1)), (0, .ref (a 0)), (1, .int model), (2, .int set), (3, .int (f7_termsOf model))]) hx hb dX7_lay_44 hl (k := 4) rfl rfl (by decide) rfl (fun ls hl => ?_)
        refine lv_goto (tgt := 8) hx hb dX7_lay_47 (by decide) ?_
        rw [nI_1] at hl
        exact ih8 (k := k + 1) (S1 := (vp_updL S1 k 0)) (ls := ls) (H := H) (locs := locs) ⟨by omega, by rw [← h8_1, layA]; simp only [if_neg c_10], lv_sub hl [1, 2, 3, 4, 0] rfl, hP, hD, hS⟩
      · refine lv_iload hx hb dX7_lay_26 (lv_at hl 4 rfl) ?_
        refine lv_iconst (v := 4) hx hb dX7_lay_28 (by decide) ?_
        refine lv_irem hx hb dX7_lay_29 (by decide) ?_
        refine xtopi (y := nI (k % 4)) (q_rem rfl (nI_lit 4) (by rcases hnt3 with rfl | rfl <;> omega) (by rcases hnt3 with rfl | rfl <;> omega) (by rcases hnt3 with rfl | rfl <;> omega)) ?_
        refine lv_if_ne (tgt := 42) hx hb dX7_lay_30 (by decide) (fun c_11 => ?_) (fun c_11 => ?_)
        · refine lv_lconst (v := 0) hx hb dX7_lay_42 (by decide) ?_
          refine xlast hx hb hK hP hD hS 11 rfl k rfl (by rcases hnt3 with rfl | rfl <;> omega) (by decide) dX7_lay_43 (fun H locs hP hD hS => ?_)
          have hP : va_P D vwCl [((a 0), .inr (7, [.int (Z 12 0), .ref (a 1), .ref (a 2), .ref (a 3), .ref (a 4), .int (Z 12 1), .ref (a 5), .ref (a 6), .ref (a 7), .ref (a 8), .ref (a 9), .int (Z 12 2), .ref (a 10), .int (Z 12 3), .int (Z 12 4), .ref (a 11), .ref (a 12), .long (Y 5 0), .ref (a 13), .ref (a 14), .ref (a 15), .ref (a 16), .ref (a 17)])), ((a 1), eI C 48 (Z 0)), ((a 2), eI C 24 (Z 1)), ((a 3), eZ C 12 (Z 2)), ((a 4), eZ C 12 (Z 3)), ((a 5), eI C 60 (Z 4)), ((a 6), eI C 60 (Z 5)), ((a 7), eI C 60 (Z 6)), ((a 8), eZ C 60 (Z 7)), ((a 9), eZ C 244 (Z 8)), ((a 10), eI C 24 (Z 9)), ((a 11), eJ C 9 (vp_updL S1 k 0)), ((a 12), eJ C 9 (Y 1)), ((a 13), eJ C 3 (Y 2)), ((a 14), eJ C 3 (Y 3)), ((a 15), eJ C 12 (Y 4)), ((a 16), eI C 6 (Z 10)), ((a 17), eI C 4 (Z 11))] H := hP
          have hD : va_D A [((a 0), .inr (7, [.int (Z 12 0), .ref (a 1), .ref (a 2), .ref (a 3), .ref (a 4), .int (Z 12 1), .ref (a 5), .ref (a 6), .ref (a 7), .ref (a 8), .ref (a 9), .int (Z 12 2), .ref (a 10), .int (Z 12 3), .int (Z 12 4), .ref (a 11), .ref (a 12), .long (Y 5 0), .ref (a 13), .ref (a 14), .ref (a 15), .ref (a 16), .ref (a 17)])), ((a 1), eI C 48 (Z 0)), ((a 2), eI C 24 (Z 1)), ((a 3), eZ C 12 (Z 2)), ((a 4), eZ C 12 (Z 3)), ((a 5), eI C 60 (Z 4)), ((a 6), eI C 60 (Z 5)), ((a 7), eI C 60 (Z 6)), ((a 8), eZ C 60 (Z 7)), ((a 9), eZ C 244 (Z 8)), ((a 10), eI C 24 (Z 9)), ((a 11), eJ C 9 (vp_updL S1 k 0)), ((a 12), eJ C 9 (Y 1)), ((a 13), eJ C 3 (Y 2)), ((a 14), eJ C 3 (Y 3)), ((a 15), eJ C 12 (Y 4)), ((a 16), eI C 6 (Z 10)), ((a 17), eI C 4 (Z 11))] := hD
          refine lv_iinc (v := nI k + 1) (lv' := [(4, .int (nI k + 1)), (0, .ref (a 0)), (1, .int model), (2, .int set), (3, .int (f7_termsOf model))]) hx hb dX7_lay_44 hl (k := 4) rfl rfl (by decide) rfl (fun ls hl => ?_)
          refine lv_goto (tgt := 8) hx hb dX7_lay_47 (by decide) ?_
          rw [nI_1] at hl
          exact ih8 (k := k + 1) (S1 := (vp_updL S1 k 0)) (ls := ls) (H := H) (locs := locs) ⟨by omega, by rw [← h8_1, layA]; simp only [if_pos c_10, if_neg c_11], lv_sub hl [1, 2, 3, 4, 0] rfl, hP, hD, hS⟩
        · refine lv_iload hx hb dX7_lay_33 (lv_at hl 4 rfl) ?_
          refine lv_if_le (tgt := 42) hx hb dX7_lay_35 (by decide) (fun c_12 => ?_) (fun c_12 => ?_)
          · refine lv_lconst (v := 0) hx hb dX7_lay_42 (by decide) ?_
            refine xlast hx hb hK hP hD hS 11 rfl k rfl (by rcases hnt3 with rfl | rfl <;> omega) (by decide) dX7_lay_43 (fun H locs hP hD hS => ?_)
            have hP : va_P D vwCl [((a 0), .inr (7, [.int (Z 12 0), .ref (a 1), .ref (a 2), .ref (a 3), .ref (a 4), .int (Z 12 1), .ref (a 5), .ref (a 6), .ref (a 7), .ref (a 8), .ref (a 9), .int (Z 12 2), .ref (a 10), .int (Z 12 3), .int (Z 12 4), .ref (a 11), .ref (a 12), .long (Y 5 0), .ref (a 13), .ref (a 14), .ref (a 15), .ref (a 16), .ref (a 17)])), ((a 1), eI C 48 (Z 0)), ((a 2), eI C 24 (Z 1)), ((a 3), eZ C 12 (Z 2)), ((a 4), eZ C 12 (Z 3)), ((a 5), eI C 60 (Z 4)), ((a 6), eI C 60 (Z 5)), ((a 7), eI C 60 (Z 6)), ((a 8), eZ C 60 (Z 7)), ((a 9), eZ C 244 (Z 8)), ((a 10), eI C 24 (Z 9)), ((a 11), eJ C 9 (vp_updL S1 k 0)), ((a 12), eJ C 9 (Y 1)), ((a 13), eJ C 3 (Y 2)), ((a 14), eJ C 3 (Y 3)), ((a 15), eJ C 12 (Y 4)), ((a 16), eI C 6 (Z 10)), ((a 17), eI C 4 (Z 11))] H := hP
            have hD : va_D A [((a 0), .inr (7, [.int (Z 12 0), .ref (a 1), .ref (a 2), .ref (a 3), .ref (a 4), .int (Z 12 1), .ref (a 5), .ref (a 6), .ref (a 7), .ref (a 8), .ref (a 9), .int (Z 12 2), .ref (a 10), .int (Z 12 3), .int (Z 12 4), .ref (a 11), .ref (a 12), .long (Y 5 0), .ref (a 13), .ref (a 14), .ref (a 15), .ref (a 16), .ref (a 17)])), ((a 1), eI C 48 (Z 0)), ((a 2), eI C 24 (Z 1)), ((a 3), eZ C 12 (Z 2)), ((a 4), eZ C 12 (Z 3)), ((a 5), eI C 60 (Z 4)), ((a 6), eI C 60 (Z 5)), ((a 7), eI C 60 (Z 6)), ((a 8), eZ C 60 (Z 7)), ((a 9), eZ C 244 (Z 8)), ((a 10), eI C 24 (Z 9)), ((a 11), eJ C 9 (vp_updL S1 k 0)), ((a 12), eJ C 9 (Y 1)), ((a 13), eJ C 3 (Y 2)), ((a 14), eJ C 3 (Y 3)), ((a 15), eJ C 12 (Y 4)), ((a 16), eI C 6 (Z 10)), ((a 17), eI C 4 (Z 11))] := hD
            refine lv_iinc (v := nI k + 1) (lv' := [(4, .int (nI k + 1)), (0, .ref (a 0)), (1, .int model), (2, .int set), (3, .int (f7_termsOf model))]) hx hb dX7_lay_44 hl (k := 4) rfl rfl (by decide) rfl (fun ls hl => ?_)
            refine lv_goto (tgt := 8) hx hb dX7_lay_47 (by decide) ?_
            rw [nI_1] at hl
            exact ih8 (k := k + 1) (S1 := (vp_updL S1 k 0)) (ls := ls) (H := H) (locs := locs) ⟨by omega, by rw [← h8_1, layA]; simp only [if_pos c_10, if_pos c_11, if_pos c_12], lv_sub hl [1, 2, 3, 4, 0] rfl, hP, hD, hS⟩
          · refine lv_lconst (v := 1) hx hb dX7_lay_38 (by decide) ?_
            refine lv_goto (tgt := 43) hx hb dX7_lay_39 (by decide) ?_
            refine xlast hx hb hK hP hD hS 11 rfl k rfl (by rcases hnt3 with rfl | rfl <;> omega) (by decide) dX7_lay_43 (fun H locs hP hD hS => ?_)
            have hP : va_P D vwCl [((a 0), .inr (7, [.int (Z 12 0), .ref (a 1), .ref (a 2), .ref (a 3), .ref (a 4), .int (Z 12 1), .ref (a 5), .ref (a 6), .ref (a 7), .ref (a 8), .ref (a 9), .int (Z 12 2), .ref (a 10), .int (Z 12 3), .int (Z 12 4), .ref (a 11), .ref (a 12), .long (Y 5 0), .ref (a 13), .ref (a 14), .ref (a 15), .ref (a 16), .ref (a 17)])), ((a 1), eI C 48 (Z 0)), ((a 2), eI C 24 (Z 1)), ((a 3), eZ C 12 (Z 2)), ((a 4), eZ C 12 (Z 3)), ((a 5), eI C 60 (Z 4)), ((a 6), eI C 60 (Z 5)), ((a 7), eI C 60 (Z 6)), ((a 8), eZ C 60 (Z 7)), ((a 9), eZ C 244 (Z 8)), ((a 10), eI C 24 (Z 9)), ((a 11), eJ C 9 (vp_updL S1 k 1)), ((a 12), eJ C 9 (Y 1)), ((a 13), eJ C 3 (Y 2)), ((a 14), eJ C 3 (Y 3)), ((a 15), eJ C 12 (Y 4)), ((a 16), eI C 6 (Z 10)), ((a 17), eI C 4 (Z 11))] H := hP
            have hD : va_D A [((a 0), .inr (7, [.int (Z 12 0), .ref (a 1), .ref (a 2), .ref (a 3), .ref (a 4), .int (Z 12 1), .ref (a 5), .ref (a 6), .ref (a 7), .ref (a 8), .ref (a 9), .int (Z 12 2), .ref (a 10), .int (Z 12 3), .int (Z 12 4), .ref (a 11), .ref (a 12), .long (Y 5 0), .ref (a 13), .ref (a 14), .ref (a 15), .ref (a 16), .ref (a 17)])), ((a 1), eI C 48 (Z 0)), ((a 2), eI C 24 (Z 1)), ((a 3), eZ C 12 (Z 2)), ((a 4), eZ C 12 (Z 3)), ((a 5), eI C 60 (Z 4)), ((a 6), eI C 60 (Z 5)), ((a 7), eI C 60 (Z 6)), ((a 8), eZ C 60 (Z 7)), ((a 9), eZ C 244 (Z 8)), ((a 10), eI C 24 (Z 9)), ((a 11), eJ C 9 (vp_updL S1 k 1)), ((a 12), eJ C 9 (Y 1)), ((a 13), eJ C 3 (Y 2)), ((a 14), eJ C 3 (Y 3)), ((a 15), eJ C 12 (Y 4)), ((a 16), eI C 6 (Z 10)), ((a 17), eI C 4 (Z 11))] := hD
            refine lv_iinc (v := nI k + 1) (lv' := [(4, .int (nI k + 1)), (0, .ref (a 0)), (1, .int model), (2, .int set), (3, .int (f7_termsOf model))]) hx hb dX7_lay_44 hl (k := 4) rfl rfl (by decide) rfl (fun ls hl => ?_)
            refine lv_goto (tgt := 8) hx hb dX7_lay_47 (by decide) ?_
            rw [nI_1] at hl
            exact ih8 (k := k + 1) (S1 := (vp_updL S1 k 1)) (ls := ls) (H := H) (locs := locs) ⟨by omega, by rw [← h8_1, layA]; simp only [if_pos c_10, if_pos c_11, if_neg c_12], lv_sub hl [1, 2, 3, 4, 0] rfl, hP, hD, hS⟩

def ffA : Nat → Nat → (Nat → Int64) → Nat → Int64
  | 0, _, S => S
  | n + 1, k, S => ffA n (k + 1) (vp_updL S k 0)
def ffK (pl rd : Nat → Int32) (model set : Int32) (w j : Nat) : Nat → Nat → (Nat → Int64) → Nat → Int64
  | 0, _, S => S
  | n + 1, t, S => if ((set >>> (nI j &&& 31)) &&& 1) = 1 then ffK pl rd model set w j n (t + 1) (vp_updL S t (S t + f7_term pl model j t * (rd (2 * j + w)).toInt64)) else S
def ffM (pl rd : Nat → Int32) (model set : Int32) (w nt : Nat) : Nat → Nat → (Nat → Int64) → Nat → Int64
  | 0, _, S => S
  | n + 1, j, S => ffM pl rd model set w nt n (j + 1) (ffK pl rd model set w j nt 0 S)
def ffF (T S : Nat → Int64) : Nat → Nat → (Nat → Int64) → Nat → Int64
  | 0, _, F => F
  | n + 1, t, F => ffF T S n (t + 1) (vp_updL F t (T (3 * t) * S 0 + T (3 * t + 1) * S 1 + T (3 * t + 2) * S 2))
def ffS (pl rd : Nat → Int32) (model set : Int32) (w nt N : Nat) (S0 : Nat → Int64) : Nat → Int64 := ffM pl rd model set w nt N 0 (ffA 3 0 S0)
def f7_findFit (pl rd : Nat → Int32) (Y : Nat → Nat → Int64) (model : Int32) (w : Nat) (set : Int32) (nt N : Nat) : Nat → Nat → Int64 :=
  uM (uM (f7_lay pl Y model set nt N) 2 (ffS pl rd model set w nt N (f7_lay pl Y model set nt N 2))) 3 (ffF (f7_lay pl Y model set nt N 1) (ffS pl rd model set w nt N (f7_lay pl Y model set nt N 2)) 3 0 (f7_lay pl Y model set nt N 3))

set_option maxHeartbeats 4000000 in
set_option maxRecDepth 100000 in
theorem kX7_findFit (l : Launch) (D : va_G) (C : Nat → ClassId) (a : Nat → Nat) (Z : Nat → Nat → Int32) (Y : Nat → Nat → Int64) (model : Int32) (w : Nat) (set : Int32) (sz : Nat) (N : Nat) (hN : Z 12 0 = nI N) (hN12 : N ≤ 12) (nt : Nat) (hnt : f7_termsOf model = nI nt) (hnt3 : nt = 1 ∨ nt = 3) (hw : w < 2) : Wv l D C yX7_findFit cX7_findFit 7 2 [.ref (a 0), .int model, .int (nI w), .int set] (wZ a C Z Y) ((wZ a C Z (f7_findFit (Z 0) (Z 1) Y model w set nt N))) sz := by
  refine Met.ofW (cc := cX7_findFit) (maxL := 7) (ret := none) (by decide) rfl ?_
  intro p e s m args below meth c s₁ B hml hv
  obtain ⟨rfl, hsz, hP, hK, hNw, hD0⟩ := hv
  have hx := B.exec
  have hb := B.bytes
  have hr := B.returns
  have hts := atoms_spec (ws := wm yX7_findFit cX7_findFit 7 none) B.pre
  have hown : s.vm.findClass RX7 = some m.cls := findClass_of_methodNamed B.named
  have hlocks := B.notSynchronized
  have hW : ∀ w ∈ WA, w.before _ s = true := fun w h => hts w (List.mem_cons_of_mem _ h)
  subst hsz
  have hD := hD0.self (sz := s.heap.size)
  generalize hAe : va_A (wZ a C Z Y) s.heap.size = A at hD ⊢
  have hA : ∀ q : Nat, s.heap.size ≤ q → A q := fun q h => by rw [← hAe]; exact Or.inr h
  have hS : va_S A s.heap s.heap [] := va_S.rf
  have hP : va_P D vwCl [((a 0), .inr (7, [.int (Z 12 0), .ref (a 1), .ref (a 2), .ref (a 3), .ref (a 4), .int (Z 12 1), .ref (a 5), .ref (a 6), .ref (a 7), .ref (a 8), .ref (a 9), .int (Z 12 2), .ref (a 10), .int (Z 12 3), .int (Z 12 4), .ref (a 11), .ref (a 12), .long (Y 5 0), .ref (a 13), .ref (a 14), .ref (a 15), .ref (a 16), .ref (a 17)])), ((a 1), eI C 48 (Z 0)), ((a 2), eI C 24 (Z 1)), ((a 3), eZ C 12 (Z 2)), ((a 4), eZ C 12 (Z 3)), ((a 5), eI C 60 (Z 4)), ((a 6), eI C 60 (Z 5)), ((a 7), eI C 60 (Z 6)), ((a 8), eZ C 60 (Z 7)), ((a 9), eZ C 244 (Z 8)), ((a 10), eI C 24 (Z 9)), ((a 11), eJ C 9 (Y 0)), ((a 12), eJ C 9 (Y 1)), ((a 13), eJ C 3 (Y 2)), ((a 14), eJ C 3 (Y 3)), ((a 15), eJ C 12 (Y 4)), ((a 16), eI C 6 (Z 10)), ((a 17), eI C 4 (Z 11))] s.heap := hP
  have hD : va_D A [((a 0), .inr (7, [.int (Z 12 0), .ref (a 1), .ref (a 2), .ref (a 3), .ref (a 4), .int (Z 12 1), .ref (a 5), .ref (a 6), .ref (a 7), .ref (a 8), .ref (a 9), .int (Z 12 2), .ref (a 10), .int (Z 12 3), .int (Z 12 4), .ref (a 11), .ref (a 12), .long (Y 5 0), .ref (a 13), .ref (a 14), .ref (a 15), .ref (a 16), .ref (a 17)])), ((a 1), eI C 48 (Z 0)), ((a 2), eI C 24 (Z 1)), ((a 3), eZ C 12 (Z 2)), ((a 4), eZ C 12 (Z 3)), ((a 5), eI C 60 (Z 4)), ((a 6), eI C 60 (Z 5)), ((a 7), eI C 60 (Z 6)), ((a 8), eZ C 60 (Z 7)), ((a 9), eZ C 244 (Z 8)), ((a 10), eI C 24 (Z 9)), ((a 11), eJ C 9 (Y 0)), ((a 12), eJ C 9 (Y 1)), ((a 13), eJ C 3 (Y 2)), ((a 14), eJ C 3 (Y 3)), ((a 15), eJ C 12 (Y 4)), ((a 16), eI C 6 (Z 10)), ((a 17), eI C 4 (Z 11))] := hD
  have hl := lv_entry ([.ref (a 0), .int model, .int (nI w), .int set]) (n := 7) (Nat.le_of_ble_eq_true rfl)
  rw [lg_entry_eq]
  generalize (lg_sl ([.ref (a 0), .int model, .int (nI w), .int set]) ++ List.replicate (7 - (lg_sl ([.ref (a 0), .int model, .int (nI w), .int set])).length) Slot.unset).toArray = ls at hl ⊢
  have hl : lv_has ls 7 [(0, .ref (a 0)), (1, .int model), (2, .int (nI w)), (3, .int set)] := hl
  refine lv_aload_n hx hb dX7_findFit_0 rfl (lv_at hl 0 rfl) ?_
  refine lv_iload_n hx hb dX7_findFit_1 rfl (lv_at hl 1 rfl) ?_
  refine lv_iload_n hx hb dX7_findFit_2 rfl (lv_at hl 3 rfl) ?_
  refine xwv (wr := []) (rV (As := [.int model, .int set]) (n := 2) (rest := []) ⟨hx, hb, hml, hown, hW⟩ (kX7_lay l D C a Z Y model set s.heap.size N hN hN12 nt hnt hnt3) (wa tw684 rfl) (wa tw681 rfl) (wa tw683 rfl) (was ts41 rfl) (wa tw8 rfl) (by decide +kernel) ⟨Nat.le_of_ble_eq_true rfl, Nat.le_of_ble_eq_true rfl⟩ (pVw hP hD hK hNw 0 rfl rfl) hl.1 rfl (Nat.le_of_ble_eq_true rfl) dX7_findFit_3 ⟨Nat.le_of_ble_eq_true rfl, Nat.le_of_ble_eq_true rfl⟩ rfl rfl rfl) hP hD hS hA [0, 1, 2, 3, 4, 5, 6, 7, 8, 9, 10, 11, 12, 13, 14, 15, 16, 17] [] rfl rfl (by decide) (by decide) (fun H locs hP hD hS => ?_)
  have hP : va_P D vwCl [((a 0), .inr (7, [.int (Z 12 0), .ref (a 1), .ref (a 2), .ref (a 3), .ref (a 4), .int (Z 12 1), .ref (a 5), .ref (a 6), .ref (a 7), .ref (a 8), .ref (a 9), .int (Z 12 2), .ref (a 10), .int (Z 12 3), .int (Z 12 4), .ref (a 11), .ref (a 12), .long ((f7_lay (Z 0) Y model set nt N) 5 0), .ref (a 13), .ref (a 14), .ref (a 15), .ref (a 16), .ref (a 17)])), ((a 1), eI C 48 (Z 0)), ((a 2), eI C 24 (Z 1)), ((a 3), eZ C 12 (Z 2)), ((a 4), eZ C 12 (Z 3)), ((a 5), eI C 60 (Z 4)), ((a 6), eI C 60 (Z 5)), ((a 7), eI C 60 (Z 6)), ((a 8), eZ C 60 (Z 7)), ((a 9), eZ C 244 (Z 8)), ((a 10), eI C 24 (Z 9)), ((a 11), eJ C 9 ((f7_lay (Z 0) Y model set nt N) 0)), ((a 12), eJ C 9 ((f7_lay (Z 0) Y model set nt N) 1)), ((a 13), eJ C 3 ((f7_lay (Z 0) Y model set nt N) 2)), ((a 14), eJ C 3 ((f7_lay (Z 0) Y model set nt N) 3)), ((a 15), eJ C 12 ((f7_lay (Z 0) Y model set nt N) 4)), ((a 16), eI C 6 (Z 10)), ((a 17), eI C 4 (Z 11))] H := hP
  have hD : va_D A [((a 0), .inr (7, [.int (Z 12 0), .ref (a 1), .ref (a 2), .ref (a 3), .ref (a 4), .int (Z 12 1), .ref (a 5), .ref (a 6), .ref (a 7), .ref (a 8), .ref (a 9), .int (Z 12 2), .ref (a 10), .int (Z 12 3), .int (Z 12 4), .ref (a 11), .ref (a 12), .long ((f7_lay (Z 0) Y model set nt N) 5 0), .ref (a 13), .ref (a 14), .ref (a 15), .ref (a 16), .ref (a 17)])), ((a 1), eI C 48 (Z 0)), ((a 2), eI C 24 (Z 1)), ((a 3), eZ C 12 (Z 2)), ((a 4), eZ C 12 (Z 3)), ((a 5), eI C 60 (Z 4)), ((a 6), eI C 60 (Z 5)), ((a 7), eI C 60 (Z 6)), ((a 8), eZ C 60 (Z 7)), ((a 9), eZ C 244 (Z 8)), ((a 10), eI C 24 (Z 9)), ((a 11), eJ C 9 ((f7_lay (Z 0) Y model set nt N) 0)), ((a 12), eJ C 9 ((f7_lay (Z 0) Y model set nt N) 1)), ((a 13), eJ C 3 ((f7_lay (Z 0) Y model set nt N) 2)), ((a 14), eJ C 3 ((f7_lay (Z 0) Y model set nt N) 3)), ((a 15), eJ C 12 ((f7_lay (Z 0) Y model set nt N) 4)), ((a 16), eI C 6 (Z 10)), ((a 17), eI C 4 (Z 11))] := hD
  refine lv_iload_n hx hb dX7_findFit_6 rfl (lv_at hl 1 rfl) ?_
  refine xri (r := f7_termsOf model) (rS (As := [.int model]) (n := 1) (rest := []) ⟨hx, hb, hml, hown, hW⟩ (kX7_termsOf l model) (wa tw687 rfl) (wa tw685 rfl) (wa tw686 rfl) (wa tw8 rfl) (by decide +kernel) ⟨Nat.le_of_ble_eq_true rfl, Nat.le_of_ble_eq_true rfl⟩ pS0 hl.1 rfl (Nat.le_of_ble_eq_true rfl) dX7_findFit_7 ⟨Nat.le_of_ble_eq_true rfl, Nat.le_of_ble_eq_true rfl⟩ rfl rfl rfl) ?_
  refine lv_istore (lv' := [(4, .int (f7_termsOf model)), (0, .ref (a 0)), (1, .int model), (2, .int (nI w)), (3, .int set)]) hx hb dX7_findFit_10 hl (by decide) rfl (fun ls hl => ?_)
  refine lv_iconst (v := 0) hx hb dX7_findFit_12 (by decide) ?_
  refine lv_istore (lv' := [(5, .int 0), (4, .int (f7_termsOf model)), (0, .ref (a 0)), (1, .int model), (2, .int (nI w)), (3, .int set)]) hx hb dX7_findFit_13 hl (by decide) rfl (fun ls hl => ?_)
  refine xgen hP hS (fun H locs hP hS => ?_)
  obtain ⟨n15, k, S1, hinv⟩ : ∃ (n15 : Nat) (k : Nat) (S1 : Nat → Int64), (k + n15 = 3) ∧ (ffA n15 k S1 = ffA 3 0 ((f7_lay (Z 0) Y model set nt N) 2)) ∧ lv_has ls 7 [(0, .ref (a 0)), (1, .int model), (2, .int (nI w)), (3, .int set), (4, .int (f7_termsOf model)), (5, .int (nI k))] ∧ va_P D vwCl [((a 0), .inr (7, [.int (Z 12 0), .ref (a 1), .ref (a 2), .ref (a 3), .ref (a 4), .int (Z 12 1), .ref (a 5), .ref (a 6), .ref (a 7), .ref (a 8), .ref (a 9), .int (Z 12 2), .ref (a 10), .int (Z 12 3), .int (Z 12 4), .ref (a 11), .ref (a 12), .long ((f7_lay (Z 0) Y model set nt N) 5 0), .ref (a 13), .ref (a 14), .ref (a 15), .ref (a 16), .ref (a 17)])), ((a 1), eI C 48 (Z 0)), ((a 2), eI C 24 (Z 1)), ((a 3), eZ C 12 (Z 2)), ((a 4), eZ C 12 (Z 3)), ((a 5), eI C 60 (Z 4)), ((a 6), eI C 60 (Z 5)), ((a 7), eI C 60 (Z 6)), ((a 8), eZ C 60 (Z 7)), ((a 9), eZ C 244 (Z 8)), ((a 10), eI C 24 (Z 9)), ((a 11), eJ C 9 ((f7_lay (Z 0) Y model set nt N) 0)), ((a 12), eJ C 9 ((f7_lay (Z 0) Y model set nt N) 1)), ((a 13), eJ C 3 S1), ((a 14), eJ C 3 ((f7_lay (Z 0) Y model set nt N) 3)), ((a 15), eJ C 12 ((f7_lay (Z 0) Y model set nt N) 4)), ((a 16), eI C 6 (Z 10)), ((a 17), eI C 4 (Z 11))] H ∧ va_D A [((a 0), .inr (7, [.int (Z 12 0), .ref (a 1), .ref (a 2), .ref (a 3), .ref (a 4), .int (Z 12 1), .ref (a 5), .ref (a 6), .ref (a 7), .ref (a 8), .ref (a 9), .int (Z 12 2), .ref (a 10), .int (Z 12 3), .int (Z 12 4), .ref (a 11), .ref (a 12), .long ((f7_lay (Z 0) Y model set nt N) 5 0), .ref (a 13), .ref (a 14), .ref (a 15), .ref (a 16), .ref (a 17)])), ((a 1), eI C 48 (Z 0)), ((a 2), eI C 24 (Z 1)), ((a 3), eZ C 12 (Z 2)), ((a 4), eZ C 12 (Z 3)), ((a 5), eI C 60 (Z 4)), ((a 6), eI C 60 (Z 5)), ((a 7), eI C 60 (Z 6)), ((a 8), eZ C 60 (Z 7)), ((a 9), eZ C 244 (Z 8)), ((a 10), eI C 24 (Z 9)), ((a 11), eJ C 9 ((f7_lay (Z 0) Y model set nt N) 0)), ((a 12), eJ C 9 ((f7_lay (Z 0) Y model set nt N) 1)), ((a 13), eJ C 3 S1), ((a 14), eJ C 3 ((f7_lay (Z 0) Y model set nt N) 3)), ((a 15), eJ C 12 ((f7_lay (Z 0) Y model set nt N) 4)), ((a 16), eI C 6 (Z 10)), ((a 17), eI C 4 (Z 11))] ∧ va_S A s.heap H locs := ⟨3, 0, ((f7_lay (Z 0) Y model set nt N) 2), rfl, rfl, lv_sub hl [2, 3, 4, 5, 1, 0] rfl, hP, hD, hS⟩
  clear hl hP hD hS
  induction n15 generalizing k S1 ls H locs with
  | zero =>
    obtain ⟨h15_0, h15_1, hl, hP, hD, hS⟩ := hinv
    refine lv_iload hx hb dX7_findFit_15 (lv_at hl 5 rfl) ?_
    refine lv_iconst (v := 3) hx hb dX7_findFit_17 (by decide) ?_
    refine lv_icmp_ge (tgt := 35) hx hb dX7_findFit_18 (by decide) (fun c_1 => ?_) (fun c_1 => ?_)
    · have e_S1 : S1 = ffA 3 0 ((f7_lay (Z 0) Y model set nt N) 2) := h15_1
      subst e_S1
      refine lv_iconst (v := 0) hx hb dX7_findFit_35 (by decide) ?_
      refine lv_istore (lv' := [(5, .int 0), (0, .ref (a 0)), (1, .int model), (2, .int (nI w)), (3, .int set), (4, .int (f7_termsOf model))]) hx hb dX7_findFit_36 hl (by decide) rfl (fun ls hl => ?_)
      refine xgen hP hS (fun H locs hP hS => ?_)
      obtain ⟨n38, j, S2, hinv⟩ : ∃ (n38 : Nat) (j : Nat) (S2 : Nat → Int64), (j + n38 = N) ∧ (ffM (Z 0) (Z 1) model set w nt n38 j S2 = ffS (Z 0) (Z 1) model set w nt N ((f7_lay (Z 0) Y model set nt N) 2)) ∧ lv_has ls 7 [(0, .ref (a 0)), (1, .int model), (2, .int (nI w)), (3, .int set), (4, .int (f7_termsOf model)), (5, .int (nI j))] ∧ va_P D vwCl [((a 0), .inr (7, [.int (Z 12 0), .ref (a 1), .ref (a 2), .ref (a 3), .ref (a 4), .int (Z 12 1), .ref (a 5), .ref (a 6), .ref (a 7), .ref (a 8), .ref (a 9), .int (Z 12 2), .ref (a 10), .int (Z 12 3), .int (Z 12 4), .ref (a 11), .ref (a 12), .long ((f7_lay (Z 0) Y model set nt N) 5 0), .ref (a 13), .ref (a 14), .ref (a 15), .ref (a 16), .ref (a 17)])), ((a 1), eI C 48 (Z 0)), ((a 2), eI C 24 (Z 1)), ((a 3), eZ C 12 (Z 2)), ((a 4), eZ C 12 (Z 3)), ((a 5), eI C 60 (Z 4)), ((a 6), eI C 60 (Z 5)), ((a 7), eI C 60 (Z 6)), ((a 8), eZ C 60 (Z 7)), ((a 9), eZ C 244 (Z 8)), ((a 10), eI C 24 (Z 9)), ((a 11), eJ C 9 ((f7_lay (Z 0) Y model set nt N) 0)), ((a 12), eJ C 9 ((f7_lay (Z 0) Y model set nt N) 1)), ((a 13), eJ C 3 S2), ((a 14), eJ C 3 ((f7_lay (Z 0) Y model set nt N) 3)), ((a 15), eJ C 12 ((f7_lay (Z 0) Y model set nt N) 4)), ((a 16), eI C 6 (Z 10)), ((a 17), eI C 4 (Z 11))] H ∧ va_D A [((a 0), .inr (7, [.int (Z 12 0), .ref (a 1), .ref (a 2), .ref (a 3), .ref (a 4), .int (Z 12 1), .ref (a 5), .ref (a 6), .ref (a 7), .ref (a 8), .ref (a 9), .int (Z 12 2), .ref (a 10), .int (Z 12 3), .int (Z 12 4), .ref (a 11), .ref (a 12), .long ((f7_lay (Z 0) Y model set nt N) 5 0), .ref (a 13), .ref (a 14), .ref (a 15), .ref (a 16), .ref (a 17)])), ((a 1), eI C 48 (Z 0)), ((a 2), eI C 24 (Z 1)), ((a 3), eZ C 12 (Z 2)), ((a 4), eZ C 12 (Z 3)), ((a 5), eI C 60 (Z 4)), ((a 6), eI C 60 (Z 5)), ((a 7), eI C 60 (Z 6)), ((a 8), eZ C 60 (Z 7)), ((a 9), eZ C 244 (Z 8)), ((a 10), eI C 24 (Z 9)), ((a 11), eJ C 9 ((f7_lay (Z 0) Y model set nt N) 0)), ((a 12), eJ C 9 ((f7_lay (Z 0) Y model set nt N) 1)), ((a 13), eJ C 3 S2), ((a 14), eJ C 3 ((f7_lay (Z 0) Y model set nt N) 3)), ((a 15), eJ C 12 ((f7_lay (Z 0) Y model set nt N) 4)), ((a 16), eI C 6 (Z 10)), ((a 17), eI C 4 (Z 11))] ∧ va_S A s.heap H locs := ⟨N, 0, (ffA 3 0 ((f7_lay (Z 0) Y model set nt N) 2)), by omega, rfl, lv_sub hl [1, 2, 3, 4, 5, 0] rfl, hP, hD, hS⟩
      clear hl hP hD hS
      induction n38 generalizing j S2 ls H locs with
      | zero =>
        obtain ⟨h38_0, h38_1, hl, hP, hD, hS⟩ := hinv
        refine lv_iload hx hb dX7_findFit_38 (lv_at hl 5 rfl) ?_
        refine lv_aload_n hx hb dX7_findFit_40 rfl (lv_at hl 0 rfl) ?_
        refine va_get (D := D) (ci := 7) (C := RX7) (T := TX7) (N := 23) hx hb hW inX7 hown hK hP 0 rfl rfl 0 (by decide) (hW _ (wa tw550 rfl)) (fun _ h9 => h9) rfl dX7_findFit_41 ?_
        refine lv_icmp_ge (tgt := 111) hx hb dX7_findFit_44 (by decide) (fun c_2 => ?_) (fun c_2 => ?_)
        · have e_S2 : S2 = ffS (Z 0) (Z 1) model set w nt N ((f7_lay (Z 0) Y model set nt N) 2) := h38_1
          subst e_S2
          refine lv_iconst (v := 0) hx hb dX7_findFit_111 (by decide) ?_
          refine lv_istore (lv' := [(5, .int 0), (0, .ref (a 0)), (1, .int model), (2, .int (nI w)), (3, .int set), (4, .int (f7_termsOf model))]) hx hb dX7_findFit_112 hl (by decide) rfl (fun ls hl => ?_)
          refine xgen hP hS (fun H locs hP hS => ?_)
          obtain ⟨n114, t, Fr, hinv⟩ : ∃ (n114 : Nat) (t : Nat) (Fr : Nat → Int64), (t + n114 = 3) ∧ (ffF ((f7_lay (Z 0) Y model set nt N) 1) (ffS (Z 0) (Z 1) model set w nt N ((f7_lay (Z 0) Y model set nt N) 2)) n114 t Fr = ffF ((f7_lay (Z 0) Y model set nt N) 1) (ffS (Z 0) (Z 1) model set w nt N ((f7_lay (Z 0) Y model set nt N) 2)) 3 0 ((f7_lay (Z 0) Y model set nt N) 3)) ∧ lv_has ls 7 [(0, .ref (a 0)), (1, .int model), (2, .int (nI w)), (3, .int set), (4, .int (f7_termsOf model)), (5, .int (nI t))] ∧ va_P D vwCl [((a 0), .inr (7, [.int (Z 12 0), .ref (a 1), .ref (a 2), .ref (a 3), .ref (a 4), .int (Z 12 1), .ref (a 5), .ref (a 6), .ref (a 7), .ref (a 8), .ref (a 9), .int (Z 12 2), .ref (a 10), .int (Z 12 3), .int (Z 12 4), .ref (a 11), .ref (a 12), .long ((f7_lay (Z 0) Y model set nt N) 5 0), .ref (a 13), .ref (a 14), .ref (a 15), .ref (a 16), .ref (a 17)])), ((a 1), eI C 48 (Z 0)), ((a 2), eI C 24 (Z 1)), ((a 3), eZ C 12 (Z 2)), ((a 4), eZ C 12 (Z 3)), ((a 5), eI C 60 (Z 4)), ((a 6), eI C 60 (Z 5)), ((a 7), eI C 60 (Z 6)), ((a 8), eZ C 60 (Z 7)), ((a 9), eZ C 244 (Z 8)), ((a 10), eI C 24 (Z 9)), ((a 11), eJ C 9 ((f7_lay (Z 0) Y model set nt N) 0)), ((a 12), eJ C 9 ((f7_lay (Z 0) Y model set nt N) 1)), ((a 13), eJ C 3 (ffS (Z 0) (Z 1) model set w nt N ((f7_lay (Z 0) Y model set nt N) 2))), ((a 14), eJ C 3 Fr), ((a 15), eJ C 12 ((f7_lay (Z 0) Y model set nt N) 4)), ((a 16), eI C 6 (Z 10)), ((a 17), eI C 4 (Z 11))] H ∧ va_D A [((a 0), .inr (7, [.int (Z 12 0), .ref (a 1), .ref (a 2), .ref (a 3), .ref (a 4), .int (Z 12 1), .ref (a 5), .ref (a 6), .ref (a 7), .ref (a 8), .ref (a 9), .int (Z 12 2), .ref (a 10), .int (Z 12 3), .int (Z 12 4), .ref (a 11), .ref (a 12), .long ((f7_lay (Z 0) Y model set nt N) 5 0), .ref (a 13), .ref (a 14), .ref (a 15), .ref (a 16), .ref (a 17)])), ((a 1), eI C 48 (Z 0)), ((a 2), eI C 24 (Z 1)), ((a 3), eZ C 12 (Z 2)), ((a 4), eZ C 12 (Z 3)), ((a 5), eI C 60 (Z 4)), ((a 6), eI C 60 (Z 5)), ((a 7), eI C 60 (Z 6)), ((a 8), eZ C 60 (Z 7)), ((a 9), eZ C 244 (Z 8)), ((a 10), eI C 24 (Z 9)), ((a 11), eJ C 9 ((f7_lay (Z 0) Y model set nt N) 0)), ((a 12), eJ C 9 ((f7_lay (Z 0) Y model set nt N) 1)), ((a 13), eJ C 3 (ffS (Z 0) (Z 1) model set w nt N ((f7_lay (Z 0) Y model set nt N) 2))), ((a 14), eJ C 3 Fr), ((a 15), eJ C 12 ((f7_lay (Z 0) Y model set nt N) 4)), ((a 16), eI C 6 (Z 10)), ((a 17), eI C 4 (Z 11))] ∧ va_S A s.heap H locs := ⟨3, 0, ((f7_lay (Z 0) Y model set nt N) 3), rfl, rfl, lv_sub hl [1, 2, 3, 4, 5, 0] rfl, hP, hD, hS⟩
          clear hl hP hD hS
          induction n114 generalizing t Fr ls H locs with
          | zero =>
            obtain ⟨h114_0, h114_1, hl, hP, hD, hS⟩ := hinv
            refine lv_iload hx hb dX7_findFit_114 (lv_at hl 5 rfl) ?_
            refine lv_iconst (v := 3) hx hb dX7_findFit_116 (by decide) ?_
            refine lv_icmp_ge (tgt := 187) hx hb dX7_findFit_117 (by decide) (fun c_3 => ?_) (fun c_3 => ?_)
            · have e_Fr : Fr = ffF ((f7_lay (Z 0) Y model set nt N) 1) (ffS (Z 0) (Z 1) model set w nt N ((f7_lay (Z 0) Y model set nt N) 2)) 3 0 ((f7_lay (Z 0) Y model set nt N) 3) := h114_1
              subst e_Fr
              have hP9 : va_P D vwCl ((wZ a C Z (f7_findFit (Z 0) (Z 1) Y model w set nt N))) H := hP
              have hD9 : va_D A ((wZ a C Z (f7_findFit (Z 0) (Z 1) Y model w set nt N))) := hD
              exact W.vret hx hb hr (fun t ht _ => ⟨⟨(), rfl, trivial, ⟨by rw [ht]; exact hP9, by rw [hAe]; exact hD9⟩⟩, hS.F ht⟩) hS.2.2 dX7_findFit_187
            · exact absurd (q_le (nI_lit 3) rfl (by rcases hnt3 with rfl | rfl <;> omega) (by rcases hnt3 with rfl | rfl <;> omega)) c_3
          | succ n114 ih114 =>
            obtain ⟨h114_0, h114_1, hl, hP, hD, hS⟩ := hinv
            refine lv_iload hx hb dX7_findFit_114 (lv_at hl 5 rfl) ?_
            refine lv_iconst (v := 3) hx hb dX7_findFit_116 (by decide) ?_
            refine lv_icmp_ge (tgt := 187) hx hb dX7_findFit_117 (by decide) (fun c_4 => ?_) (fun c_4 => ?_)
            · exact absurd c_4 (q_nle (nI_lit 3) rfl (by rcases hnt3 with rfl | rfl <;> omega) (by rcases hnt3 with rfl | rfl <;> omega))
            · refine lv_aload_n hx hb dX7_findFit_120 rfl (lv_at hl 0 rfl) ?_
              refine va_get (D := D) (ci := 7) (C := RX7) (T := TX7) (N := 23) hx hb hW inX7 hown hK hP 0 rfl rfl 19 (by decide) (hW _ (wa tw569 rfl)) (fun _ h9 => h9) rfl dX7_findFit_121 ?_
              refine lv_iload hx hb dX7_findFit_124 (lv_at hl 5 rfl) ?_
              refine lv_aload_n hx hb dX7_findFit_126 rfl (lv_at hl 0 rfl) ?_
              refine va_get (D := D) (ci := 7) (C := RX7) (T := TX7) (N := 23) hx hb hW inX7 hown hK hP 0 rfl rfl 16 (by decide) (hW _ (wa tw566 rfl)) (fun _ h9 => h9) rfl dX7_findFit_127 ?_
              refine lv_iconst (v := 3) hx hb dX7_findFit_130 (by decide) ?_
              refine lv_iload hx hb dX7_findFit_131 (lv_at hl 5 rfl) ?_
              refine lv_imul hx hb dX7_findFit_133 ?_
              refine xlald hx hb hK hP 12 rfl (3 * t) (q_mul (nI_lit 3) rfl) (by rcases hnt3 with rfl | rfl <;> omega) (by decide) dX7_findFit_134 ?_
              refine lv_aload_n hx hb dX7_findFit_135 rfl (lv_at hl 0 rfl) ?_
              refine va_get (D := D) (ci := 7) (C := RX7) (T := TX7) (N := 23) hx hb hW inX7 hown hK hP 0 rfl rfl 18 (by decide) (hW _ (wa tw568 rfl)) (fun _ h9 => h9) rfl dX7_findFit_136 ?_
              refine lv_iconst (v := 0) hx hb dX7_findFit_139 (by decide) ?_
              refine xlald hx hb hK hP 13 rfl 0 (nI_lit 0) (by decide) (by decide) dX7_findFit_140 ?_
              refine lv_lmul hx hb dX7_findFit_141 ?_
              refine lv_aload_n hx hb dX7_findFit_142 rfl (lv_at hl 0 rfl) ?_
              refine va_get (D := D) (ci := 7) (C := RX7) (T := TX7) (N := 23) hx hb hW inX7 hown hK hP 0 rfl rfl 16 (by decide) (hW _ (wa tw566 rfl)) (fun _ h9 => h9) rfl dX7_findFit_143 ?_
              refine lv_iconst (v := 3) hx hb dX7_findFit_146 (by decide) ?_
              refine lv_iload hx hb dX7_findFit_147 (lv_at hl 5 rfl) ?_
              refine lv_imul hx hb dX7_findFit_149 ?_
              refine lv_iconst (v := 1) hx hb dX7_findFit_150 (by decide) ?_
              refine lv_iadd hx hb dX7_findFit_151 ?_
              refine xlald hx hb hK hP 12 rfl ((3 * t) + 1) (q_add (q_mul (nI_lit 3) rfl) (nI_lit 1)) (by rcases hnt3 with rfl | rfl <;> omega) (by decide) dX7_findFit_152 ?_
              refine lv_aload_n hx hb dX7_findFit_153 rfl (lv_at hl 0 rfl) ?_
              refine va_get (D := D) (ci := 7) (C := RX7) (T := TX7) (N := 23) hx hb hW inX7 hown hK hP 0 rfl rfl 18 (by decide) (hW _ (wa tw568 rfl)) (fun _ h9 => h9) rfl dX7_findFit_154 ?_
              refine lv_iconst (v := 1) hx hb dX7_findFit_157 (by decide) ?_
              refine xlald hx hb hK hP 13 rfl 1 (nI_lit 1) (by decide) (by decide) dX7_findFit_158 ?_
              refine lv_lmul hx hb dX7_findFit_159 ?_
              refine lv_ladd hx hb dX7_findFit_160 ?_
              refine lv_aload_n hx hb dX7_findFit_161 rfl (lv_at hl 0 rfl) ?_
              refine va_get (D := D) (ci := 7) (C := RX7) (T := TX7) (N := 23) hx hb hW inX7 hown hK hP 0 rfl rfl 16 (by decide) (hW _ (wa tw566 rfl)) (fun _ h9 => h9) rfl dX7_findFit_162 ?_
              refine lv_iconst (v := 3) hx hb dX7_findFit_165 (by decide) ?_
              refine lv_iload hx hb dX7_findFit_166 (lv_at hl 5 rfl) ?_
              refine lv_imul hx hb dX7_findFit_168 ?_
              refine lv_iconst (v := 2) hx hb dX7_findFit_169 (by decide) ?_
              refine lv_iadd hx hb dX7_findFit_170 ?_
              refine xlald hx hb hK hP 12 rfl ((3 * t) + 2) (q_add (q_mul (nI_lit 3) rfl) (nI_lit 2)) (by rcases hnt3 with rfl | rfl <;> omega) (by decide) dX7_findFit_171 ?_
              refine lv_aload_n hx hb dX7_findFit_172 rfl (lv_at hl 0 rfl) ?_
              refine va_get (D := D) (ci := 7) (C := RX7) (T := TX7) (N := 23) hx hb hW inX7 hown hK hP 0 rfl rfl 18 (by decide) (hW _ (wa tw568 rfl)) (fun _ h9 => h9) rfl dX7_findFit_173 ?_
              refine lv_iconst (v := 2) hx hb dX7_findFit_176 (by decide) ?_
              refine xlald hx hb hK hP 13 rfl 2 (nI_lit 2) (by decide) (by decide) dX7_findFit_177 ?_
              refine lv_lmul hx hb dX7_findFit_178 ?_
              refine lv_ladd hx hb dX7_findFit_179 ?_
              refine xlast hx hb hK hP hD hS 14 rfl t rfl (by rcases hnt3 with rfl | rfl <;> omega) (by decide) dX7_findFit_180 (fun H locs hP hD hS => ?_)
              have hP : va_P D vwCl [((a 0), .inr (7, [.int (Z 12 0), .ref (a 1), .ref (a 2), .ref (a 3), .ref (a 4), .int (Z 12 1), .ref (a 5), .ref (a 6), .ref (a 7), .ref (a 8), .ref (a 9), .int (Z 12 2), .ref (a 10), .int (Z 12 3), .int (Z 12 4), .ref (a 11), .ref (a 12), .long ((f7_lay (Z 0) Y model set nt N) 5 0), .ref (a 13), .ref (a 14), .ref (a 15), .ref (a 16), .ref (a 17)])), ((a 1), eI C 48 (Z 0)), ((a 2), eI C 24 (Z 1)), ((a 3), eZ C 12 (Z 2)), ((a 4), eZ C 12 (Z 3)), ((a 5), eI C 60 (Z 4)), ((a 6), eI C 60 (Z 5)), ((a 7), eI C 60 (Z 6)), ((a 8), eZ C 60 (Z 7)), ((a 9), eZ C 244 (Z 8)), ((a 10), eI C 24 (Z 9)), ((a 11), eJ C 9 ((f7_lay (Z 0) Y model set nt N) 0)), ((a 12), eJ C 9 ((f7_lay (Z 0) Y model set nt N) 1)), ((a 13), eJ C 3 (ffS (Z 0) (Z 1) model set w nt N ((f7_lay (Z 0) Y model set nt N) 2))), ((a 14), eJ C 3 (vp_updL Fr t ((((((f7_lay (Z 0) Y model set nt N) 1) (3 * t)) * ((ffS (Z 0) (Z 1) model set w nt N ((f7_lay (Z 0) Y model set nt N) 2)) 0)) + ((((f7_lay (Z 0) Y model set nt N) 1) ((3 * t) + 1)) * ((ffS (Z 0) (Z 1) model set w nt N ((f7_lay (Z 0) Y model set nt N) 2)) 1))) + ((((f7_lay (Z 0) Y model set nt N) 1) ((3 * t) + 2)) * ((ffS (Z 0) (Z 1) model set w nt N ((f7_lay (Z 0) Y model set nt N) 2)) 2))))), ((a 15), eJ C 12 ((f7_lay (Z 0) Y model set nt N) 4)), ((a 16), eI C 6 (Z 10)), ((a 17), eI C 4 (Z 11))] H := hP
              have hD : va_D A [((a 0), .inr (7, [.int (Z 12 0), .ref (a 1), .ref (a 2), .ref (a 3), .ref (a 4), .int (Z 12 1), .ref (a 5), .ref (a 6), .ref (a 7), .ref (a 8), .ref (a 9), .int (Z 12 2), .ref (a 10), .int (Z 12 3), .int (Z 12 4), .ref (a 11), .ref (a 12), .long ((f7_lay (Z 0) Y model set nt N) 5 0), .ref (a 13), .ref (a 14), .ref (a 15), .ref (a 16), .ref (a 17)])), ((a 1), eI C 48 (Z 0)), ((a 2), eI C 24 (Z 1)), ((a 3), eZ C 12 (Z 2)), ((a 4), eZ C 12 (Z 3)), ((a 5), eI C 60 (Z 4)), ((a 6), eI C 60 (Z 5)), ((a 7), eI C 60 (Z 6)), ((a 8), eZ C 60 (Z 7)), ((a 9), eZ C 244 (Z 8)), ((a 10), eI C 24 (Z 9)), ((a 11), eJ C 9 ((f7_lay (Z 0) Y model set nt N) 0)), ((a 12), eJ C 9 ((f7_lay (Z 0) Y model set nt N) 1)), ((a 13), eJ C 3 (ffS (Z 0) (Z 1) model set w nt N ((f7_lay (Z 0) Y model set nt N) 2))), ((a 14), eJ C 3 (vp_updL Fr t ((((((f7_lay (Z 0) Y model set nt N) 1) (3 * t)) * ((ffS (Z 0) (Z 1) model set w nt N ((f7_lay (Z 0) Y model set nt N) 2)) 0)) + ((((f7_lay (Z 0) Y model set nt N) 1) ((3 * t) + 1)) * ((ffS (Z 0) (Z 1) model set w nt N ((f7_lay (Z 0) Y model set nt N) 2)) 1))) + ((((f7_lay (Z 0) Y model set nt N) 1) ((3 * t) + 2)) * ((ffS (Z 0) (Z 1) model set w nt N ((f7_lay (Z 0) Y model set nt N) 2)) 2))))), ((a 15), eJ C 12 ((f7_lay (Z 0) Y model set nt N) 4)), ((a 16), eI C 6 (Z 10)), ((a 17), eI C 4 (Z 11))] := hD
              refine lv_iinc (v := nI t + 1) (lv' := [(5, .int (nI t + 1)), (0, .ref (a 0)), (1, .int model), (2, .int (nI w)), (3, .int set), (4, .int (f7_termsOf model))]) hx hb dX7_findFit_181 hl (k := 5) rfl rfl (by decide) rfl (fun ls hl => ?_)
              refine lv_goto (tgt := 114) hx hb dX7_findFit_184 (by decide) ?_
              rw [nI_1] at hl
              exact ih114 (t := t + 1) (Fr := (vp_updL Fr t ((((((f7_lay (Z 0) Y model set nt N) 1) (3 * t)) * ((ffS (Z 0) (Z 1) model set w nt N ((f7_lay (Z 0) Y model set nt N) 2)) 0)) + ((((f7_lay (Z 0) Y model set nt N) 1) ((3 * t) + 1)) * ((ffS (Z 0) (Z 1) model set w nt N ((f7_lay (Z 0) Y model set nt N) 2)) 1))) + ((((f7_lay (Z 0) Y model set nt N) 1) ((3 * t) + 2)) * ((ffS (Z 0) (Z 1) model set w nt N ((f7_lay (Z 0) Y model set nt N) 2)) 2))))) (ls := ls) (H := H) (locs := locs) ⟨by omega, h114_1, lv_sub hl [1, 2, 3, 4, 5, 0] rfl, hP, hD, hS⟩
        · exact absurd (q_le hN rfl (by rcases hnt3 with rfl | rfl <;> omega) (by rcases hnt3 with rfl | rfl <;> omega)) c_2
      | succ n38 ih38 =>
        obtain ⟨h38_0, h38_1, hl, hP, hD, hS⟩ := hinv
        refine lv_iload hx hb dX7_findFit_38 (lv_at hl 5 rfl) ?_
        refine lv_aload_n hx hb dX7_findFit_40 rfl (lv_at hl 0 rfl) ?_
        refine va_get (D := D) (ci := 7) (C := RX7) (T := TX7) (N := 23) hx hb hW inX7 hown hK hP 0 rfl rfl 0 (by decide) (hW _ (wa tw550 rfl)) (fun _ h9 => h9) rfl dX7_findFit_41 ?_
        refine lv_icmp_ge (tgt := 111) hx hb dX7_findFit_44 (by decide) (fun c_5 => ?_) (fun c_5 => ?_)
        · exact absurd c_5 (q_nle hN rfl (by rcases hnt3 with rfl | rfl <;> omega) (by rcases hnt3 with rfl | rfl <;> omega))
        · refine lv_iconst (v := 0) hx hb dX7_findFit_47 (by decide) ?_
          refine lv_istore (lv' := [(6, .int 0), (0, .ref (a 0)), (1, .int model), (2, .int (nI w)), (3, .int set), (4, .int (f7_termsOf model)), (5, .int (nI j))]) hx hb dX7_findFit_48 hl (by decide) rfl (fun ls hl => ?_)
          refine xgen hP hS (fun H locs hP hS => ?_)
          obtain ⟨n50, t, S3, hinv⟩ : ∃ (n50 : Nat) (t : Nat) (S3 : Nat → Int64), (t + n50 = nt) ∧ (ffK (Z 0) (Z 1) model set w j n50 t S3 = ffK (Z 0) (Z 1) model set w j nt 0 S2) ∧ lv_has ls 7 [(0, .ref (a 0)), (1, .int model), (2, .int (nI w)), (3, .int set), (4, .int (f7_termsOf model)), (5, .int (nI j)), (6, .int (nI t))] ∧ va_P D vwCl [((a 0), .inr (7, [.int (Z 12 0), .ref (a 1), .ref (a 2), .ref (a 3), .ref (a 4), .int (Z 12 1), .ref (a 5), .ref (a 6), .ref (a 7), .ref (a 8), .ref (a 9), .int (Z 12 2), .ref (a 10), .int (Z 12 3), .int (Z 12 4), .ref (a 11), .ref (a 12), .long ((f7_lay (Z 0) Y model set nt N) 5 0), .ref (a 13), .ref (a 14), .ref (a 15), .ref (a 16), .ref (a 17)])), ((a 1), eI C 48 (Z 0)), ((a 2), eI C 24 (Z 1)), ((a 3), eZ C 12 (Z 2)), ((a 4), eZ C 12 (Z 3)), ((a 5), eI C 60 (Z 4)), ((a 6), eI C 60 (Z 5)), ((a 7), eI C 60 (Z 6)), ((a 8), eZ C 60 (Z 7)), ((a 9), eZ C 244 (Z 8)), ((a 10), eI C 24 (Z 9)), ((a 11), eJ C 9 ((f7_lay (Z 0) Y model set nt N) 0)), ((a 12), eJ C 9 ((f7_lay (Z 0) Y model set nt N) 1)), ((a 13), eJ C 3 S3), ((a 14), eJ C 3 ((f7_lay (Z 0) Y model set nt N) 3)), ((a 15), eJ C 12 ((f7_lay (Z 0) Y model set nt N) 4)), ((a 16), eI C 6 (Z 10)), ((a 17), eI C 4 (Z 11))] H ∧ va_D A [((a 0), .inr (7, [.int (Z 12 0), .ref (a 1), .ref (a 2), .ref (a 3), .ref (a 4), .int (Z 12 1), .ref (a 5), .ref (a 6), .ref (a 7), .ref (a 8), .ref (a 9), .int (Z 12 2), .ref (a 10), .int (Z 12 3), .int (Z 12 4), .ref (a 11), .ref (a 12), .long ((f7_lay (Z 0) Y model set nt N) 5 0), .ref (a 13), .ref (a 14), .ref (a 15), .ref (a 16), .ref (a 17)])), ((a 1), eI C 48 (Z 0)), ((a 2), eI C 24 (Z 1)), ((a 3), eZ C 12 (Z 2)), ((a 4), eZ C 12 (Z 3)), ((a 5), eI C 60 (Z 4)), ((a 6), eI C 60 (Z 5)), ((a 7), eI C 60 (Z 6)), ((a 8), eZ C 60 (Z 7)), ((a 9), eZ C 244 (Z 8)), ((a 10), eI C 24 (Z 9)), ((a 11), eJ C 9 ((f7_lay (Z 0) Y model set nt N) 0)), ((a 12), eJ C 9 ((f7_lay (Z 0) Y model set nt N) 1)), ((a 13), eJ C 3 S3), ((a 14), eJ C 3 ((f7_lay (Z 0) Y model set nt N) 3)), ((a 15), eJ C 12 ((f7_lay (Z 0) Y model set nt N) 4)), ((a 16), eI C 6 (Z 10)), ((a 17), eI C 4 (Z 11))] ∧ va_S A s.heap H locs := ⟨nt, 0, S2, by omega, rfl, lv_sub hl [1, 2, 3, 4, 5, 6, 0] rfl, hP, hD, hS⟩
          clear hl hP hD hS
          induction n50 generalizing t S3 ls H locs with
          | zero =>
            obtain ⟨h50_0, h50_1, hl, hP, hD, hS⟩ := hinv
            refine lv_iload hx hb dX7_findFit_50 (lv_at hl 6 rfl) ?_
            refine lv_iload hx hb dX7_findFit_52 (lv_at hl 4 rfl) ?_
            refine lv_icmp_ge (tgt := 105) hx hb dX7_findFit_54 (by decide) (fun c_6 => ?_) (fun c_6 => ?_)
            · have e_S3 : S3 = ffK (Z 0) (Z 1) model set w j nt 0 S2 := h50_1
              subst e_S3
              refine lv_iinc (v := nI j + 1) (lv' := [(5, .int (nI j + 1)), (0, .ref (a 0)), (1, .int model), (2, .int (nI w)), (3, .int set), (4, .int (f7_termsOf model)), (6, .int (nI t))]) hx hb dX7_findFit_105 hl (k := 5) rfl rfl (by decide) rfl (fun ls hl => ?_)
              refine lv_goto (tgt := 38) hx hb dX7_findFit_108 (by decide) ?_
              rw [nI_1] at hl
              exact ih38 (j := j + 1) (S2 := (ffK (Z 0) (Z 1) model set w j nt 0 S2)) (ls := ls) (H := H) (locs := locs) ⟨by omega, h38_1, lv_sub hl [1, 2, 3, 4, 5, 0] rfl, hP, hD, hS⟩
            · exact absurd (q_le hnt rfl (by rcases hnt3 with rfl | rfl <;> omega) (by rcases hnt3 with rfl | rfl <;> omega)) c_6
          | succ n50 ih50 =>
            obtain ⟨h50_0, h50_1, hl, hP, hD, hS⟩ := hinv
            refine lv_iload hx hb dX7_findFit_50 (lv_at hl 6 rfl) ?_
            refine lv_iload hx hb dX7_findFit_52 (lv_at hl 4 rfl) ?_
            refine lv_icmp_ge (tgt := 105) hx hb dX7_findFit_54 (by decide) (fun c_7 => ?_) (fun c_7 => ?_)
            · exact absurd c_7 (q_nle hnt rfl (by rcases hnt3 with rfl | rfl <;> omega) (by rcases hnt3 with rfl | rfl <;> omega))
            · refine lv_iload_n hx hb dX7_findFit_57 rfl (lv_at hl 3 rfl) ?_
              refine lv_iload hx hb dX7_findFit_58 (lv_at hl 5 rfl) ?_
              refine lv_ishr hx hb dX7_findFit_60 ?_
              refine lv_iconst (v := 1) hx hb dX7_findFit_61 (by decide) ?_
              refine lv_iand hx hb dX7_findFit_62 ?_
              refine lv_iconst (v := 1) hx hb dX7_findFit_63 (by decide) ?_
              refine lv_icmp_ne (tgt := 105) hx hb dX7_findFit_64 (by decide) (fun c_8 => ?_) (fun c_8 => ?_)
              · have e_S3 : S3 = ffK (Z 0) (Z 1) model set w j nt 0 S2 := by rw [← h50_1, ffK, if_neg c_8]
                subst e_S3
                refine lv_iinc (v := nI j + 1) (lv' := [(5, .int (nI j + 1)), (0, .ref (a 0)), (1, .int model), (2, .int (nI w)), (3, .int set), (4, .int (f7_termsOf model)), (6, .int (nI t))]) hx hb dX7_findFit_105 hl (k := 5) rfl rfl (by decide) rfl (fun ls hl => ?_)
                refine lv_goto (tgt := 38) hx hb dX7_findFit_108 (by decide) ?_
                rw [nI_1] at hl
                exact ih38 (j := j + 1) (S2 := (ffK (Z 0) (Z 1) model set w j nt 0 S2)) (ls := ls) (H := H) (locs := locs) ⟨by omega, h38_1, lv_sub hl [1, 2, 3, 4, 5, 0] rfl, hP, hD, hS⟩
              · refine lv_aload_n hx hb dX7_findFit_67 rfl (lv_at hl 0 rfl) ?_
                refine va_get (D := D) (ci := 7) (C := RX7) (T := TX7) (N := 23) hx hb hW inX7 hown hK hP 0 rfl rfl 18 (by decide) (hW _ (wa tw568 rfl)) (fun _ h9 => h9) rfl dX7_findFit_68 ?_
                refine lv_iload hx hb dX7_findFit_71 (lv_at hl 6 rfl) ?_
                refine lv_dup2_11 hx hb dX7_findFit_73 rfl rfl ?_
                refine xlald hx hb hK hP 13 rfl t rfl (by rcases hnt3 with rfl | rfl <;> omega) (by decide) dX7_findFit_74 ?_
                refine lv_aload_n hx hb dX7_findFit_75 rfl (lv_at hl 0 rfl) ?_
                refine lv_iload_n hx hb dX7_findFit_76 rfl (lv_at hl 1 rfl) ?_
                refine lv_iload hx hb dX7_findFit_77 (lv_at hl 5 rfl) ?_
                refine lv_iload hx hb dX7_findFit_79 (lv_at hl 6 rfl) ?_
                refine xrl (r := f7_term (Z 0) model j t) (rV (As := [.int model, .int (nI j), .int (nI t)]) (n := 3) (rest := [.long (S3 t), .int (nI t), .ref (a 13)]) ⟨hx, hb, hml, hown, hW⟩ (kX7_term l D C a Z (uM (f7_lay (Z 0) Y model set nt N) 2 S3) model j t (by rcases hnt3 with rfl | rfl <;> omega) (by rcases hnt3 with rfl | rfl <;> omega)) (wa tw691 rfl) (wa tw688 rfl) (wa tw690 rfl) (was ts42 rfl) (wa tw8 rfl) (by decide +kernel) ⟨Nat.le_of_ble_eq_true rfl, Nat.le_of_ble_eq_true rfl⟩ (pVr hP hK hNw 0 rfl rfl) hl.1 rfl (Nat.le_of_ble_eq_true rfl) dX7_findFit_81 ⟨Nat.le_of_ble_eq_true rfl, Nat.le_of_ble_eq_true rfl⟩ rfl rfl rfl) ?_
                refine lv_aload_n hx hb dX7_findFit_84 rfl (lv_at hl 0 rfl) ?_
                refine va_get (D := D) (ci := 7) (C := RX7) (T := TX7) (N := 23) hx hb hW inX7 hown hK hP 0 rfl rfl 2 (by decide) (hW _ (wa tw552 rfl)) (fun _ h9 => h9) rfl dX7_findFit_85 ?_
                refine lv_iconst (v := 2) hx hb dX7_findFit_88 (by decide) ?_
                refine lv_iload hx hb dX7_findFit_89 (lv_at hl 5 rfl) ?_
                refine lv_imul hx hb dX7_findFit_91 ?_
                refine lv_iload_n hx hb dX7_findFit_92 rfl (lv_at hl 2 rfl) ?_
                refine lv_iadd hx hb dX7_findFit_93 ?_
                refine xiald hx hb hK hP 2 rfl ((2 * j) + w) (q_add (q_mul (nI_lit 2) rfl) rfl) (by rcases hnt3 with rfl | rfl <;> omega) (by decide) dX7_findFit_94 ?_
                refine lv_i2l (v := ((Z 1) ((2 * j) + w)).toInt64) hx hb dX7_findFit_95 rfl ?_
                refine lv_lmul hx hb dX7_findFit_96 ?_
                refine lv_ladd hx hb dX7_findFit_97 ?_
                refine xlast hx hb hK hP hD hS 13 rfl t rfl (by rcases hnt3 with rfl | rfl <;> omega) (by decide) dX7_findFit_98 (fun H locs hP hD hS => ?_)
                have hP : va_P D vwCl [((a 0), .inr (7, [.int (Z 12 0), .ref (a 1), .ref (a 2), .ref (a 3), .ref (a 4), .int (Z 12 1), .ref (a 5), .ref (a 6), .ref (a 7), .ref (a 8), .ref (a 9), .int (Z 12 2), .ref (a 10), .int (Z 12 3), .int (Z 12 4), .ref (a 11), .ref (a 12), .long ((f7_lay (Z 0) Y model set nt N) 5 0), .ref (a 13), .ref (a 14), .ref (a 15), .ref (a 16), .ref (a 17)])), ((a 1), eI C 48 (Z 0)), ((a 2), eI C 24 (Z 1)), ((a 3), eZ C 12 (Z 2)), ((a 4), eZ C 12 (Z 3)), ((a 5), eI C 60 (Z 4)), ((a 6), eI C 60 (Z 5)), ((a 7), eI C 60 (Z 6)), ((a 8), eZ C 60 (Z 7)), ((a 9), eZ C 244 (Z 8)), ((a 10), eI C 24 (Z 9)), ((a 11), eJ C 9 ((f7_lay (Z 0) Y model set nt N) 0)), ((a 12), eJ C 9 ((f7_lay (Z 0) Y model set nt N) 1)), ((a 13), eJ C 3 (vp_updL S3 t ((S3 t) + ((f7_term (Z 0) model j t) * (((Z 1) ((2 * j) + w)).toInt64))))), ((a 14), eJ C 3 ((f7_lay (Z 0) Y model set nt N) 3)), ((a 15), eJ C 12 ((f7_lay (Z 0) Y model set nt N) 4)), ((a 16), eI C 6 (Z 10)), ((a 17), eI C 4 (Z 11))] H := hP
                have hD : va_D A [((a 0), .inr (7, [.int (Z 12 0), .ref (a 1), .ref (a 2), .ref (a 3), .ref (a 4), .int (Z 12 1), .ref (a 5), .ref (a 6), .ref (a 7), .ref (a 8), .ref (a 9), .int (Z 12 2), .ref (a 10), .int (Z 12 3), .int (Z 12 4), .ref (a 11), .ref (a 12), .long ((f7_lay (Z 0) Y model set nt N) 5 0), .ref (a 13), .ref (a 14), .ref (a 15), .ref (a 16), .ref (a 17)])), ((a 1), eI C 48 (Z 0)), ((a 2), eI C 24 (Z 1)), ((a 3), eZ C 12 (Z 2)), ((a 4), eZ C 12 (Z 3)), ((a 5), eI C 60 (Z 4)), ((a 6), eI C 60 (Z 5)), ((a 7), eI C 60 (Z 6)), ((a 8), eZ C 60 (Z 7)), ((a 9), eZ C 244 (Z 8)), ((a 10), eI C 24 (Z 9)), ((a 11), eJ C 9 ((f7_lay (Z 0) Y model set nt N) 0)), ((a 12), eJ C 9 ((f7_lay (Z 0) Y model set nt N) 1)), ((a 13), eJ C 3 (vp_updL S3 t ((S3 t) + ((f7_term (Z 0) model j t) * (((Z 1) ((2 * j) + w)).toInt64))))), ((a 14), eJ C 3 ((f7_lay (Z 0) Y model set nt N) 3)), ((a 15), eJ C 12 ((f7_lay (Z 0) Y model set nt N) 4)), ((a 16), eI C 6 (Z 10)), ((a 17), eI C 4 (Z 11))] := hD
                refine lv_iinc (v := nI t + 1) (lv' := [(6, .int (nI t + 1)), (0, .ref (a 0)), (1, .int model), (2, .int (nI w)), (3, .int set), (4, .int (f7_termsOf model)), (5, .int (nI j))]) hx hb dX7_findFit_99 hl (k := 6) rfl rfl (by decide) rfl (fun ls hl => ?_)
                refine lv_goto (tgt := 50) hx hb dX7_findFit_102 (by decide) ?_
                rw [nI_1] at hl
                exact ih50 (t := t + 1) (S3 := (vp_updL S3 t ((S3 t) + ((f7_term (Z 0) model j t) * (((Z 1) ((2 * j) + w)).toInt64))))) (ls := ls) (H := H) (locs := locs) ⟨by omega, by rw [← h50_1, ffK, if_pos c_8], lv_sub hl [1, 2, 3, 4, 5, 6, 0] rfl, hP, hD, hS⟩
    · exact absurd (q_le (nI_lit 3) rfl (by rcases hnt3 with rfl | rfl <;> omega) (by rcases hnt3 with rfl | rfl <;> omega)) c_1
  | succ n15 ih15 =>
    obtain ⟨h15_0, h15_1, hl, hP, hD, hS⟩ := hinv
    refine lv_iload hx hb dX7_findFit_15 (lv_at hl 5 rfl) ?_
    refine lv_iconst (v := 3) hx hb dX7_findFit_17 (by decide) ?_
    refine lv_icmp_ge (tgt := 35) hx hb dX7_findFit_18 (by decide) (fun c_9 => ?_) (fun c_9 => ?_)
    · exact absurd c_9 (q_nle (nI_lit 3) rfl (by rcases hnt3 with rfl | rfl <;> omega) (by rcases hnt3 with rfl | rfl <;> omega))
    · refine lv_aload_n hx hb dX7_findFit_21 rfl (lv_at hl 0 rfl) ?_
      refine va_get (D := D) (ci := 7) (C := RX7) (T := TX7) (N := 23) hx hb hW inX7 hown hK hP 0 rfl rfl 18 (by decide) (hW _ (wa tw568 rfl)) (fun _ h9 => h9) rfl dX7_findFit_22 ?_
      refine lv_iload hx hb dX7_findFit_25 (lv_at hl 5 rfl) ?_
      refine lv_lconst (v := 0) hx hb dX7_findFit_27 (by decide) ?_
      refine xlast hx hb hK hP hD hS 13 rfl k rfl (by rcases hnt3 with rfl | rfl <;> omega) (by decide) dX7_findFit_28 (fun H locs hP hD hS => ?_)
      have hP : va_P D vwCl [((a 0), .inr (7, [.int (Z 12 0), .ref (a 1), .ref (a 2), .ref (a 3), .ref (a 4), .int (Z 12 1), .ref (a 5), .ref (a 6), .ref (a 7), .ref (a 8), .ref (a 9), .int (Z 12 2), .ref (a 10), .int (Z 12 3), .int (Z 12 4), .ref (a 11), .ref (a 12), .long ((f7_lay (Z 0) Y model set nt N) 5 0), .ref (a 13), .ref (a 14), .ref (a 15), .ref (a 16), .ref (a 17)])), ((a 1), eI C 48 (Z 0)), ((a 2), eI C 24 (Z 1)), ((a 3), eZ C 12 (Z 2)), ((a 4), eZ C 12 (Z 3)), ((a 5), eI C 60 (Z 4)), ((a 6), eI C 60 (Z 5)), ((a 7), eI C 60 (Z 6)), ((a 8), eZ C 60 (Z 7)), ((a 9), eZ C 244 (Z 8)), ((a 10), eI C 24 (Z 9)), ((a 11), eJ C 9 ((f7_lay (Z 0) Y model set nt N) 0)), ((a 12), eJ C 9 ((f7_lay (Z 0) Y model set nt N) 1)), ((a 13), eJ C 3 (vp_updL S1 k 0)), ((a 14), eJ C 3 ((f7_lay (Z 0) Y model set nt N) 3)), ((a 15), eJ C 12 ((f7_lay (Z 0) Y model set nt N) 4)), ((a 16), eI C 6 (Z 10)), ((a 17), eI C 4 (Z 11))] H := hP
      have hD : va_D A [((a 0), .inr (7, [.int (Z 12 0), .ref (a 1), .ref (a 2), .ref (a 3), .ref (a 4), .int (Z 12 1), .ref (a 5), .ref (a 6), .ref (a 7), .ref (a 8), .ref (a 9), .int (Z 12 2), .ref (a 10), .int (Z 12 3), .int (Z 12 4), .ref (a 11), .ref (a 12), .long ((f7_lay (Z 0) Y model set nt N) 5 0), .ref (a 13), .ref (a 14), .ref (a 15), .ref (a 16), .ref (a 17)])), ((a 1), eI C 48 (Z 0)), ((a 2), eI C 24 (Z 1)), ((a 3), eZ C 12 (Z 2)), ((a 4), eZ C 12 (Z 3)), ((a 5), eI C 60 (Z 4)), ((a 6), eI C 60 (Z 5)), ((a 7), eI C 60 (Z 6)), ((a 8), eZ C 60 (Z 7)), ((a 9), eZ C 244 (Z 8)), ((a 10), eI C 24 (Z 9)), ((a 11), eJ C 9 ((f7_lay (Z 0) Y model set nt N) 0)), ((a 12), eJ C 9 ((f7_lay (Z 0) Y model set nt N) 1)), ((a 13), eJ C 3 (vp_updL S1 k 0)), ((a 14), eJ C 3 ((f7_lay (Z 0) Y model set nt N) 3)), ((a 15), eJ C 12 ((f7_lay (Z 0) Y model set nt N) 4)), ((a 16), eI C 6 (Z 10)), ((a 17), eI C 4 (Z 11))] := hD
      refine lv_iinc (v := nI k + 1) (lv' := [(5, .int (nI k + 1)), (0, .ref (a 0)), (1, .int model), (2, .int (nI w)), (3, .int set), (4, .int (f7_termsOf model))]) hx hb dX7_findFit_29 hl (k := 5) rfl rfl (by decide) rfl (fun ls hl => ?_)
      refine lv_goto (tgt := 15) hx hb dX7_findFit_32 (by decide) ?_
      rw [nI_1] at hl
      exact ih15 (k := k + 1) (S1 := (vp_updL S1 k 0)) (ls := ls) (H := H) (locs := locs) ⟨by omega, h15_1, lv_sub hl [1, 2, 3, 4, 5, 0] rfl, hP, hD, hS⟩

def restL (fac : Nat → Int64) (pl : Nat → Int32) (model : Int32) (k : Nat) : Nat → Nat → Int64 → Int64
  | 0, _, x => x
  | n + 1, t, x => restL fac pl model k n (t + 1) (x - fac t * f7_term pl model k t)
def f7_restOf (pl rd : Nat → Int32) (fac : Nat → Int64) (det : Int64) (model : Int32) (w k nt : Nat) : Int64 := restL fac pl model k nt 0 ((rd (2 * k + w)).toInt64 * det)

set_option maxHeartbeats 4000000 in
set_option maxRecDepth 100000 in
theorem kX7_restOf (l : Launch) (D : va_G) (C : Nat → ClassId) (a : Nat → Nat) (Z : Nat → Nat → Int32) (Y : Nat → Nat → Int64) (model : Int32) (w k : Nat) (nt : Nat) (hnt : f7_termsOf model = nI nt) (hnt3 : nt = 1 ∨ nt = 3) (hw : w < 2) (hk : k < 12) : Rl l D C yX7_restOf cX7_restOf 7 1 [.ref (a 0), .int model, .int (nI w), .int (nI k)] (wZ a C Z Y) (f7_restOf (Z 0) (Z 1) (Y 3) (Y 5 0) model w k nt) := by
  refine Met.ofW (cc := cX7_restOf) (maxL := 7) (ret := (some .long)) (by decide) rfl ?_
  intro p e s m args below meth c s₁ B hml hv
  obtain ⟨rfl, hP, hK, hNw⟩ := hv
  have hx := B.exec
  have hb := B.bytes
  have hr := B.returns
  have hts := atoms_spec (ws := wm yX7_restOf cX7_restOf 7 (some .long)) B.pre
  have hown : s.vm.findClass RX7 = some m.cls := findClass_of_methodNamed B.named
  have hlocks := B.notSynchronized
  have hW : ∀ w ∈ WA, w.before _ s = true := fun w h => hts w (List.mem_cons_of_mem _ h)
  have hP : va_P D vwCl [((a 0), .inr (7, [.int (Z 12 0), .ref (a 1), .ref (a 2), .ref (a 3), .ref (a 4), .int (Z 12 1), .ref (a 5), .ref (a 6), .ref (a 7), .ref (a 8), .ref (a 9), .int (Z 12 2), .ref (a 10), .int (Z 12 3), .int (Z 12 4), .ref (a 11), .ref (a 12), .long (Y 5 0), .ref (a 13), .ref (a 14), .ref (a 15), .ref (a 16), .ref (a 17)])), ((a 1), eI C 48 (Z 0)), ((a 2), eI C 24 (Z 1)), ((a 3), eZ C 12 (Z 2)), ((a 4), eZ C 12 (Z 3)), ((a 5), eI C 60 (Z 4)), ((a 6), eI C 60 (Z 5)), ((a 7), eI C 60 (Z 6)), ((a 8), eZ C 60 (Z 7)), ((a 9), eZ C 244 (Z 8)), ((a 10), eI C 24 (Z 9)), ((a 11), eJ C 9 (Y 0)), ((a 12), eJ C 9 (Y 1)), ((a 13), eJ C 3 (Y 2)), ((a 14), eJ C 3 (Y 3)), ((a 15), eJ C 12 (Y 4)), ((a 16), eI C 6 (Z 10)), ((a 17), eI C 4 (Z 11))] s.heap := hP
  have hl := lv_entry ([.ref (a 0), .int model, .int (nI w), .int (nI k)]) (n := 7) (Nat.le_of_ble_eq_true rfl)
  rw [lg_entry_eq]
  generalize (lg_sl ([.ref (a 0), .int model, .int (nI w), .int (nI k)]) ++ List.replicate (7 - (lg_sl ([.ref (a 0), .int model, .int (nI w), .int (nI k)])).length) Slot.unset).toArray = ls at hl ⊢
  have hl : lv_has ls 7 [(0, .ref (a 0)), (1, .int model), (2, .int (nI w)), (3, .int (nI k))] := hl
  refine lv_aload_n hx hb dX7_restOf_0 rfl (lv_at hl 0 rfl) ?_
  refine va_get (D := D) (ci := 7) (C := RX7) (T := TX7) (N := 23) hx hb hW inX7 hown hK hP 0 rfl rfl 2 (by decide) (hW _ (wa tw552 rfl)) (fun _ h9 => h9) rfl dX7_restOf_1 ?_
  refine lv_iconst (v := 2) hx hb dX7_restOf_4 (by decide) ?_
  refine lv_iload_n hx hb dX7_restOf_5 rfl (lv_at hl 3 rfl) ?_
  refine lv_imul hx hb dX7_restOf_6 ?_
  refine lv_iload_n hx hb dX7_restOf_7 rfl (lv_at hl 2 rfl) ?_
  refine lv_iadd hx hb dX7_restOf_8 ?_
  refine xiald hx hb hK hP 2 rfl ((2 * k) + w) (q_add (q_mul (nI_lit 2) rfl) rfl) (by rcases hnt3 with rfl | rfl <;> omega) (by decide) dX7_restOf_9 ?_
  refine lv_i2l (v := ((Z 1) ((2 * k) + w)).toInt64) hx hb dX7_restOf_10 rfl ?_
  refine lv_aload_n hx hb dX7_restOf_11 rfl (lv_at hl 0 rfl) ?_
  refine va_get (D := D) (ci := 7) (C := RX7) (T := TX7) (N := 23) hx hb hW inX7 hown hK hP 0 rfl rfl 17 (by decide) (hW _ (wa tw567 rfl)) (fun _ h9 => h9) rfl dX7_restOf_12 ?_
  refine lv_lmul hx hb dX7_restOf_15 ?_
  refine lv_lstore (lv' := [(4, .long ((((Z 1) ((2 * k) + w)).toInt64) * (Y 5 0))), (0, .ref (a 0)), (1, .int model), (2, .int (nI w)), (3, .int (nI k))]) hx hb dX7_restOf_16 hl (by decide) rfl (fun ls hl => ?_)
  refine lv_iconst (v := 0) hx hb dX7_restOf_18 (by decide) ?_
  refine lv_istore (lv' := [(6, .int 0), (4, .long ((((Z 1) ((2 * k) + w)).toInt64) * (Y 5 0))), (0, .ref (a 0)), (1, .int model), (2, .int (nI w)), (3, .int (nI k))]) hx hb dX7_restOf_19 hl (by decide) rfl (fun ls hl => ?_)
  obtain ⟨n21, t, x, hinv⟩ : ∃ (n21 : Nat) (t : Nat) (x : Int64), (t + n21 = nt) ∧ (restL (Y 3) (Z 0) model k n21 t x = f7_restOf (Z 0) (Z 1) (Y 3) (Y 5 0) model w k nt) ∧ lv_has ls 7 [(0, .ref (a 0)), (1, .int model), (2, .int (nI w)), (3, .int (nI k)), (4, .long x), (6, .int (nI t))] := ⟨nt, 0, ((Z 1 (2 * k + w)).toInt64 * Y 5 0), by omega, rfl, lv_sub hl [2, 3, 4, 5, 1, 0] rfl⟩
  clear hl
  induction n21 generalizing t x ls with
  | zero =>
    obtain ⟨h21_0, h21_1, hl⟩ := hinv
    refine lv_iload hx hb dX7_restOf_21 (lv_at hl 5 rfl) ?_
    refine lv_iload_n hx hb dX7_restOf_23 rfl (lv_at hl 1 rfl) ?_
    refine xri (r := f7_termsOf model) (rS (As := [.int model]) (n := 1) (rest := [.int (nI t)]) ⟨hx, hb, hml, hown, hW⟩ (kX7_termsOf l model) (wa tw687 rfl) (wa tw685 rfl) (wa tw686 rfl) (wa tw8 rfl) (by decide +kernel) ⟨Nat.le_of_ble_eq_true rfl, Nat.le_of_ble_eq_true rfl⟩ pS0 hl.1 rfl (Nat.le_of_ble_eq_true rfl) dX7_restOf_24 ⟨Nat.le_of_ble_eq_true rfl, Nat.le_of_ble_eq_true rfl⟩ rfl rfl rfl) ?_
    refine lv_icmp_ge (tgt := 57) hx hb dX7_restOf_27 (by decide) (fun c_1 => ?_) (fun c_1 => ?_)
    · refine lv_lload hx hb dX7_restOf_57 (lv_at hl 4 rfl) ?_
      exact W.lret (v := x) hx hb hr (fun t ht _ => ⟨_, rfl, h21_1, ht⟩) (fun q h => by cases h) dX7_restOf_59
    · exact absurd (q_le hnt rfl (by rcases hnt3 with rfl | rfl <;> omega) (by rcases hnt3 with rfl | rfl <;> omega)) c_1
  | succ n21 ih21 =>
    obtain ⟨h21_0, h21_1, hl⟩ := hinv
    refine lv_iload hx hb dX7_restOf_21 (lv_at hl 5 rfl) ?_
    refine lv_iload_n hx hb dX7_restOf_23 rfl (lv_at hl 1 rfl) ?_
    refine xri (r := f7_termsOf model) (rS (As := [.int model]) (n := 1) (rest := [.int (nI t)]) ⟨hx, hb, hml, hown, hW⟩ (kX7_termsOf l model) (wa tw687 rfl) (wa tw685 rfl) (wa tw686 rfl) (wa tw8 rfl) (by decide +kernel) ⟨Nat.le_of_ble_eq_true rfl, Nat.le_of_ble_eq_true rfl⟩ pS0 hl.1 rfl (Nat.le_of_ble_eq_true rfl) dX7_restOf_24 ⟨Nat.le_of_ble_eq_true rfl, Nat.le_of_ble_eq_true rfl⟩ rfl rfl rfl) ?_
    refine lv_icmp_ge (tgt := 57) hx hb dX7_restOf_27 (by decide) (fun c_2 => ?_) (fun c_2 => ?_)
    · exact absurd c_2 (q_nle hnt rfl (by rcases hnt3 with rfl | rfl <;> omega) (by rcases hnt3 with rfl | rfl <;> omega))
    · refine lv_lload hx hb dX7_restOf_30 (lv_at hl 4 rfl) ?_
      refine lv_aload_n hx hb dX7_restOf_32 rfl (lv_at hl 0 rfl) ?_
      refine va_get (D := D) (ci := 7) (C := RX7) (T := TX7) (N := 23) hx hb hW inX7 hown hK hP 0 rfl rfl 19 (by decide) (hW _ (wa tw569 rfl)) (fun _ h9 => h9) rfl dX7_restOf_33 ?_
      refine lv_iload hx hb dX7_restOf_36 (lv_at hl 5 rfl) ?_
      refine xlald hx hb hK hP 14 rfl t rfl (by rcases hnt3 with rfl | rfl <;> omega) (by decide) dX7_restOf_38 ?_
      refine lv_aload_n hx hb dX7_restOf_39 rfl (lv_at hl 0 rfl) ?_
      refine lv_iload_n hx hb dX7_restOf_40 rfl (lv_at hl 1 rfl) ?_
      refine lv_iload_n hx hb dX7_restOf_41 rfl (lv_at hl 3 rfl) ?_
      refine lv_iload hx hb dX7_restOf_42 (lv_at hl 5 rfl) ?_
      refine xrl (r := f7_term (Z 0) model k t) (rV (As := [.int model, .int (nI k), .int (nI t)]) (n := 3) (rest := [.long ((Y 3) t), .long x]) ⟨hx, hb, hml, hown, hW⟩ (kX7_term l D C a Z Y model k t (by rcases hnt3 with rfl | rfl <;> omega) (by rcases hnt3 with rfl | rfl <;> omega)) (wa tw691 rfl) (wa tw688 rfl) (wa tw690 rfl) (was ts42 rfl) (wa tw8 rfl) (by decide +kernel) ⟨Nat.le_of_ble_eq_true rfl, Nat.le_of_ble_eq_true rfl⟩ (pVr hP hK hNw 0 rfl rfl) hl.1 rfl (Nat.le_of_ble_eq_true rfl) dX7_restOf_44 ⟨Nat.le_of_ble_eq_true rfl, Nat.le_of_ble_eq_true rfl⟩ rfl rfl rfl) ?_
      refine lv_lmul hx hb dX7_restOf_47 ?_
      refine lv_lsub hx hb dX7_restOf_48 ?_
      refine lv_lstore (lv' := [(4, .long (x - (((Y 3) t) * (f7_term (Z 0) model k t)))), (0, .ref (a 0)), (1, .int model), (2, .int (nI w)), (3, .int (nI k)), (6, .int (nI t))]) hx hb dX7_restOf_49 hl (by decide) rfl (fun ls hl => ?_)
      refine lv_iinc (v := nI t + 1) (lv' := [(6, .int (nI t + 1)), (4, .long (x - (((Y 3) t) * (f7_term (Z 0) model k t)))), (0, .ref (a 0)), (1, .int model), (2, .int (nI w)), (3, .int (nI k))]) hx hb dX7_restOf_51 hl (k := 5) rfl rfl (by decide) rfl (fun ls hl => ?_)
      refine lv_goto (tgt := 21) hx hb dX7_restOf_54 (by decide) ?_
      rw [nI_1] at hl
      exact ih21 (t := t + 1) (x := (x - (((Y 3) t) * (f7_term (Z 0) model k t)))) (ls := ls) ⟨by omega, h21_1, lv_sub hl [2, 3, 4, 5, 1, 0] rfl⟩
