set_option maxHeartbeats 4000000 in
set_option maxRecDepth 100000 in
/-- what is known at the start -/
theorem lw_known {s : State} {args : Array Value} (hT : ∀ w ∈ tables_1, w.before args s = true) (hW : ∀ w ∈ WA, w.before args s = true) : ∃ (D : va_G) (C : Nat → ClassId), va_K D vwCl (tyv C) s ∧ aov s := by
  obtain ⟨c0, i0, k0⟩ := u_known (C := RX0) (T := TX0) (N := 7) (n := 7) hW inX0 (hW _ (wa tw172 rfl))
  obtain ⟨c1, i1, k1⟩ := u_known (C := RX1) (T := TX1) (N := 4) (n := 4) hW inX1 (hW _ (wa tw66 rfl))
  obtain ⟨c2, i2, k2⟩ := u_known (C := RX2) (T := TX2) (N := 8) (n := 8) hW inX2 (hW _ (wa tw21 rfl))
  obtain ⟨c3, i3, k3⟩ := u_known (C := RX3) (T := TX3) (N := 5) (n := 5) hW inX3 (hW _ (wa tw145 rfl))
  obtain ⟨c4, i4, k4⟩ := u_known (C := RX4) (T := TX4) (N := 7) (n := 7) hW inX4 (hW _ (wa tw204 rfl))
  obtain ⟨c5, i5, k5⟩ := u_known (C := RX5) (T := TX5) (N := 13) (n := 13) hW inX5 (hW _ (wa tw72 rfl))
  obtain ⟨c6, i6, k6⟩ := u_known (C := RX6) (T := TX6) (N := 5) (n := 5) hW inX6 (hW _ (wa tw13 rfl))
  obtain ⟨c7, i7, k7⟩ := u_known (C := RX7) (T := TX7) (N := 23) (n := 23) hW inX7 (hW _ (wa tw545 rfl))
  obtain ⟨aI, kI, pI, fI1, fI2, fI3⟩ := Cond.arrayClass_spec (hW _ (wa tw64 rfl))
  obtain ⟨aJ, kJ, pJ, fJ1, fJ2, fJ3⟩ := Cond.arrayClass_spec (hW _ (wa tw143 rfl))
  obtain ⟨aZ, kZ, pZ, fZ1, fZ2, fZ3⟩ := Cond.arrayClass_spec (hW _ (wa tw202 rfl))
  obtain ⟨pII, aII, kII, gI1, gI2, gI3, gI4, gI5⟩ := Jvm.Stand.arrayOver_specB (hT _ tw27)
  obtain ⟨pJJ, aJJ, kJJ, gJ1, gJ2, gJ3, gJ4, gJ5⟩ := Jvm.Stand.arrayOver_specB (hT _ tw127)
  refine ⟨(fun k => [c0, c1, c2, c3, c4, c5, c6, c7].getD k c0, fun k => [i0, i1, i2, i3, i4, i5, i6, i7].getD k i0), fun k => [aI, aJ, aZ, aII, aJJ].getD k aI, ⟨fun k q hq => ?_, fun k q hq => ?_⟩, Jvm.Stand.arrayOver_alikeB (Vm.Alike.refl s.vm) (hT _ tw27), Jvm.Stand.arrayOver_alikeB (Vm.Alike.refl s.vm) (hT _ tw127)⟩
  · match k, hq with
    | 0, hq => cases hq; exact k0
    | 1, hq => cases hq; exact k1
    | 2, hq => cases hq; exact k2
    | 3, hq => cases hq; exact k3
    | 4, hq => cases hq; exact k4
    | 5, hq => cases hq; exact k5
    | 6, hq => cases hq; exact k6
    | 7, hq => cases hq; exact k7
    | k + 8, hq => simp [vwCl] at hq
  · match k, hq with
    | 0, hq => cases hq; exact ⟨fun n z => ⟨fun k h => (by cases h), kI, fI2, pI, fI3⟩, fI1⟩
    | 1, hq => cases hq; exact ⟨fun n z => ⟨fun k h => (by cases h), kJ, fJ2, pJ, fJ3⟩, fJ1⟩
    | 2, hq => cases hq; exact ⟨fun n z => ⟨fun k h => (by cases h), kZ, fZ2, pZ, fZ3⟩, fZ1⟩
    | 3, hq => cases hq; exact ⟨fun n z => ⟨fun k h => (by cases h), kII, gI3, pII, gI4⟩, gI5⟩
    | 4, hq => cases hq; exact ⟨fun n z => ⟨fun k h => (by cases h), kJJ, gJ3, pJJ, gJ4⟩, gJ5⟩
    | k + 5, hq => simp [tyv] at hq
set_option maxHeartbeats 4000000 in
set_option maxRecDepth 100000 in
theorem whole_start {p : Program} {e : Env} {s : State} {m : MethodId} {below : List Frame} {meth : Method} {c : Code} (l : Launch) {b L : Nat} {xs : Nat → Int32} (hL : L ≤ 2560) (C0 : lw_At p s m meth c b L xs) : W p l e room_1 s m #[Value.ref b] below meth c s.heap [] 0 0 (lw_Z below #[Value.ref b] s) (entryFrame m ([Value.ref b] : List Value).toArray 4) := by
  obtain ⟨hx, hb, hr, hml, hown, hts, hX, hbl, hlocks, hgv⟩ := id C0
  have hA : ∀ q : Nat, s.heap.size ≤ q → (fun q : Nat => s.heap.size ≤ q) q := fun _ h => h
  have hbA : ¬ (fun q : Nat => s.heap.size ≤ q) b := Nat.not_le.mpr hbl
  have hW : ∀ w ∈ WA, w.before #[Value.ref b] s = true := fun w h => hts w (WA_in w h)
  have hT : ∀ w ∈ tables_1, w.before #[Value.ref b] s = true := fun w h => hts w (List.mem_append_right _ h)
  have hNw : nw s := nw_of hT
  obtain ⟨D, C, hK, hO⟩ := lw_known hT hW
  have hC : Lc p s m c #[Value.ref b] D C (fun q : Nat => s.heap.size ≤ q) b L xs := ⟨hx, hb, hml, hown, hW, hX, hbl, hbA, hA, hK, hNw, hL⟩
  have hS : va_S (fun q : Nat => s.heap.size ≤ q) s.heap s.heap [] := va_S.rf
  have hP : va_P D vwCl [] s.heap := fun k q h => by simp at h
  have hD : va_D (fun q : Nat => s.heap.size ≤ q) [] := ⟨fun i j p q h => by simp at h, fun k q h => by simp at h⟩
  have hl := lv_entry ([.ref b]) (n := 4) (Nat.le_of_ble_eq_true rfl)
  rw [lg_entry_eq]
  generalize (lg_sl ([.ref b]) ++ List.replicate (4 - (lg_sl ([.ref b])).length) Slot.unset).toArray = ls at hl ⊢
  have hl : lv_has ls 4 [(0, .ref b)] := hl
  refine va_new (ci := 6) (fs := [.null, .null, .null, .null, .null]) (C := RX6) (T := TX6) (N := 5) hx hb hW inX6 tyX6 tyX6_ok hown (hW _ (wa tw12 rfl)) (hW _ (wa tw13 rfl)) (hW _ (wa tw1 rfl)) hK hP hD hS hA rfl (fun j hj => by rcases (show j = 0 ∨ j = 1 ∨ j = 2 ∨ j = 3 ∨ j = 4 by omega) with rfl | rfl | rfl | rfl | rfl <;> rfl) (Nat.le_of_ble_eq_true rfl) (Nat.le_of_ble_eq_true rfl) d_law_0 (fun q1 H hP hD hS => ?_)
  have hP : va_P D vwCl [(q1, .inr (6, [.null, .null, .null, .null, .null]))] H := hP
  have hD : va_D (fun q : Nat => s.heap.size ≤ q) [(q1, .inr (6, [.null, .null, .null, .null, .null]))] := hD
  refine lv_dup hx hb d_law_3 rfl ?_
  refine xnv (wc := [(q1, .inr (6, [.null, .null, .null, .null, .null]))]) (wr := []) (w1 := (fun u : Nat → Nat → Nat => wX (u 0) (u 1) (u 2) (u 3) (u 4) (u 5) ++ (wM (u 1) C (fun _ _ => 0) ++ (wF (u 2) C (fun _ _ => 0) 0 ++ (wP (u 3) C (fun _ _ => 0) (fun _ => 0) ++ (wB (u 4) C cB0 ++ wR (u 5) C cR0)))))) (z := (fun u : Nat → Nat → Nat => u 0 0)) (h0 := q1) (rI (As := []) (n := 0) (rest := [.ref q1]) ⟨hx, hb, hml, hown, hW⟩ (kX6_init l D C q1 H.size) (wa tw16 rfl) (wa tw14 rfl) (wa tw15 rfl) (wa tw1 rfl) rfl (by decide +kernel) ⟨(Nat.le_of_ble_eq_true rfl), (Nat.le_of_ble_eq_true rfl)⟩ (pIw hP hD hK hNw hO) hl.1 rfl (Nat.le_of_ble_eq_true rfl) d_law_4 ⟨(Nat.le_of_ble_eq_true rfl), (Nat.le_of_ble_eq_true rfl)⟩ rfl rfl rfl) hP hD hS hA [0] [] rfl rfl (by decide) (by decide) ?_
  clear hP hD
  clear hP hD
  intro u H locs eg hP hD hS
  have eg : u 0 0 = q1 := eg
  subst eg
  have hP : va_P D vwCl (wX (u 0) (u 1) (u 2) (u 3) (u 4) (u 5) ++ (wM (u 1) C (fun _ _ => 0) ++ (wF (u 2) C (fun _ _ => 0) 0 ++ (wP (u 3) C (fun _ _ => 0) (fun _ => 0) ++ (wB (u 4) C cB0 ++ wR (u 5) C cR0))))) H := hP
  have hD : va_D (fun q : Nat => s.heap.size ≤ q) (wX (u 0) (u 1) (u 2) (u 3) (u 4) (u 5) ++ (wM (u 1) C (fun _ _ => 0) ++ (wF (u 2) C (fun _ _ => 0) 0 ++ (wP (u 3) C (fun _ _ => 0) (fun _ => 0) ++ (wB (u 4) C cB0 ++ wR (u 5) C cR0))))) := hD
  refine lv_astore_n (lv' := [(1, .ref (u 0 0)), (0, .ref b)]) hx hb d_law_7 rfl hl (by decide) rfl (fun ls hl => ?_)
  refine va_new (ci := 7) (fs := [.int 0, .null, .null, .null, .null, .int 0, .null, .null, .null, .null, .null, .int 0, .null, .int 0, .int 0, .null, .null, .long 0, .null, .null, .null, .null, .null]) (C := RX7) (T := TX7) (N := 23) hx hb hW inX7 tyX7 tyX7_ok hown (hW _ (wa tw544 rfl)) (hW _ (wa tw545 rfl)) (hW _ (wa tw8 rfl)) hK hP hD hS hA rfl (fun j hj => by rcases (show j = 0 ∨ j = 1 ∨ j = 2 ∨ j = 3 ∨ j = 4 ∨ j = 5 ∨ j = 6 ∨ j = 7 ∨ j = 8 ∨ j = 9 ∨ j = 10 ∨ j = 11 ∨ j = 12 ∨ j = 13 ∨ j = 14 ∨ j = 15 ∨ j = 16 ∨ j = 17 ∨ j = 18 ∨ j = 19 ∨ j = 20 ∨ j = 21 ∨ j = 22 by omega) with rfl | rfl | rfl | rfl | rfl | rfl | rfl | rfl | rfl | rfl | rfl | rfl | rfl | rfl | rfl | rfl | rfl | rfl | rfl | rfl | rfl | rfl | rfl <;> rfl) (Nat.le_of_ble_eq_true rfl) (Nat.le_of_ble_eq_true rfl) d_law_8 (fun q2 H hP hD hS => ?_)
  have hP : va_P D vwCl ((wX (u 0) (u 1) (u 2) (u 3) (u 4) (u 5) ++ (wM (u 1) C (fun _ _ => 0) ++ (wF (u 2) C (fun _ _ => 0) 0 ++ (wP (u 3) C (fun _ _ => 0) (fun _ => 0) ++ (wB (u 4) C cB0 ++ wR (u 5) C cR0))))) ++ [(q2, .inr (7, [.int 0, .null, .null, .null, .null, .int 0, .null, .null, .null, .null, .null, .int 0, .null, .int 0, .int 0, .null, .null, .long 0, .null, .null, .null, .null, .null]))]) H := hP
  have hD : va_D (fun q : Nat => s.heap.size ≤ q) ((wX (u 0) (u 1) (u 2) (u 3) (u 4) (u 5) ++ (wM (u 1) C (fun _ _ => 0) ++ (wF (u 2) C (fun _ _ => 0) 0 ++ (wP (u 3) C (fun _ _ => 0) (fun _ => 0) ++ (wB (u 4) C cB0 ++ wR (u 5) C cR0))))) ++ [(q2, .inr (7, [.int 0, .null, .null, .null, .null, .int 0, .null, .null, .null, .null, .null, .int 0, .null, .int 0, .int 0, .null, .null, .long 0, .null, .null, .null, .null, .null]))]) := hD
  refine lv_dup hx hb d_law_11 rfl ?_
  refine xnv (wc := [(q2, .inr (7, [.int 0, .null, .null, .null, .null, .int 0, .null, .null, .null, .null, .null, .int 0, .null, .int 0, .int 0, .null, .null, .long 0, .null, .null, .null, .null, .null]))]) (wr := (wX (u 0) (u 1) (u 2) (u 3) (u 4) (u 5) ++ (wM (u 1) C (fun _ _ => 0) ++ (wF (u 2) C (fun _ _ => 0) 0 ++ (wP (u 3) C (fun _ _ => 0) (fun _ => 0) ++ (wB (u 4) C cB0 ++ wR (u 5) C cR0)))))) (w1 := (fun a => wZ a C cZ0 (fun _ _ => 0))) (z := (fun a : Nat → Nat => a 0)) (h0 := q2) (rI (As := []) (n := 0) (rest := [.ref q2]) ⟨hx, hb, hml, hown, hW⟩ (kX7_init l D C q2 H.size) (wa tw548 rfl) (wa tw546 rfl) (wa tw547 rfl) (wa tw8 rfl) rfl (by decide +kernel) ⟨(Nat.le_of_ble_eq_true rfl), (Nat.le_of_ble_eq_true rfl)⟩ (pIw (hP.sub (ws' := [(q2, .inr (7, [.int 0, .null, .null, .null, .null, .int 0, .null, .null, .null, .null, .null, .int 0, .null, .int 0, .int 0, .null, .null, .long 0, .null, .null, .null, .null, .null]))]) [38] rfl) (hD.sub (ws' := [(q2, .inr (7, [.int 0, .null, .null, .null, .null, .int 0, .null, .null, .null, .null, .null, .int 0, .null, .int 0, .int 0, .null, .null, .long 0, .null, .null, .null, .null, .null]))]) [38] (by decide) rfl) hK hNw hO) hl.1 rfl (Nat.le_of_ble_eq_true rfl) d_law_12 ⟨(Nat.le_of_ble_eq_true rfl), (Nat.le_of_ble_eq_true rfl)⟩ rfl rfl rfl) hP hD hS hA [38] [0, 1, 2, 3, 4, 5, 6, 7, 8, 9, 10, 11, 12, 13, 14, 15, 16, 17, 18, 19, 20, 21, 22, 23, 24, 25, 26, 27, 28, 29, 30, 31, 32, 33, 34, 35, 36, 37] rfl rfl (by decide) (by decide) ?_
  clear hP hD
  clear hP hD
  intro a H locs eg hP hD hS
  have eg : a 0 = q2 := eg
  subst eg
  have hP : va_P D vwCl (WW (u 0) (u 1) (u 2) (u 3) (u 4) (u 5) a C (fun _ _ => 0) (fun _ _ => 0) 0 (fun _ _ => 0) (fun _ => 0) cB0 cR0 cZ0 (fun _ _ => 0)) H := hP
  have hD : va_D (fun q : Nat => s.heap.size ≤ q) (WW (u 0) (u 1) (u 2) (u 3) (u 4) (u 5) a C (fun _ _ => 0) (fun _ _ => 0) 0 (fun _ _ => 0) (fun _ => 0) cB0 cR0 cZ0 (fun _ _ => 0)) := hD
  refine lv_astore_n (lv' := [(2, .ref (a 0)), (1, .ref (u 0 0)), (0, .ref b)]) hx hb d_law_15 rfl hl (by decide) rfl (fun ls hl => ?_)
  refine lv_iconst (v := 0) hx hb d_law_16 (by decide) ?_
  refine lv_istore_n (lv' := [(3, .int 0), (2, .ref (a 0)), (1, .ref (u 0 0)), (0, .ref b)]) hx hb d_law_17 rfl hl (by decide) rfl (fun ls hl => ?_)
  refine W.widen (k := 600000) (n := 7302250) (Nat.le_of_ble_eq_true rfl) (Nat.le_of_ble_eq_true rfl) ?_
  exact lw_loop hr hlocks hC (L + 6) 0 (by omega) (by omega) _ _ _ _ _ _ _ _ _ _ _ _ _ H _ SimA_0 hP hD hS ls (lv_sub hl [3, 2, 1, 0] rfl)
set_option maxHeartbeats 4000000 in
theorem lw_walk (l : Launch) (b : Addr) (xs : List Int32) : MetFree l x (headSpec (Jvm.Cond.code x code maxLocals ret :: tables_1) room_1) (lw_P b xs) (fun _ _ _ _ _ => True) lw_Q := by
  refine MetFree.of_bodyS (code := code) (maxLocals := maxLocals) (ret := ret) (by decide) ?_ ?_
  · intro args s m h hn
    obtain ⟨meth, c, h1, h2, h3, h4, h5, h6, -, -⟩ := Cond.code_spec hn (atoms_spec (ws := Jvm.Cond.code x code maxLocals ret :: tables_1) h _ List.mem_cons_self)
    exact ⟨meth, c, h1, h2, h3, h4, h5, h6⟩
  · intro p e s m args below meth c s₁ B hml0 hP _
    obtain ⟨rfl, hx, hbd, hgv⟩ := hP
    obtain ⟨scr, harrAt, hlist, hof, hsmall⟩ := hx
    obtain ⟨hcb, hkn, -, -⟩ := State.arrayAt?_spec harrAt
    have hown : s.vm.findClass R_law = some m.cls := findClass_of_methodNamed B.named
    have hts0 : ∀ c ∈ (Jvm.Cond.code x code maxLocals ret :: tables_1), c.before #[Value.ref b] s = true := atoms_spec (ws := Jvm.Cond.code x code maxLocals ret :: tables_1) B.pre
    have hts : ∀ w ∈ lw_tbl, w.before #[Value.ref b] s = true := k2_hts_sels lw_privs (fun w hw => hts0 w (List.mem_cons_of_mem _ hw)) lw_privs_ok
    have hml : c.maxLocals = 4 := B.maxLocals_eq (hts0 _ List.mem_cons_self)
    have X₀ : Stand p l e room_1 s m #[Value.ref b] below meth c s₁ [] 0 0 := Stand.of_body B
    have hh0 : s₁.heap = s.heap := by rw [B.state]; rfl
    have hsz : scr.slots.size = xs.length := by rw [← Array.length_toList, hlist, List.length_map]
    have hval : ∀ j : Nat, j < xs.length → scr.slots[j]? = some (.int (xs.getD j 0)) := fun j hj => by
      rw [← Array.getElem?_toList, hlist]
      simp [hj]
    have hbl : b < s.heap.size := (Array.getElem?_eq_some_iff.mp hcb).1
    have hX : va_X b xs.length (fun j => xs.getD j 0) s s.heap := ⟨scr, hcb, hof, hkn, hsz, hval⟩
    have K : W p l e room_1 s m #[Value.ref b] below meth c s₁.heap [] 0 0 (lw_Z below #[Value.ref b] s) (entryFrame m ([Value.ref b] : List Value).toArray 4) := by
      rw [hh0]
      exact whole_start l hbd ⟨B.exec, B.bytes, B.returns, hml, hown, hts, hX, hbl, B.notSynchronized, hgv⟩
    obtain ⟨t, a1, o, b1, b2, b3⟩ := K s₁ rfl X₀
    exact ⟨t, o, a1, b1, b2, b3⟩
theorem lw_pre_spec {args : Array Value} {s : State} (h : (Jvm.Cond.and given_1 narrow_1).before args s = true) (hr : rest_1_c.before args s = true) : ∃ (b : Addr) (xs : List Int32), lw_P b xs args s := by
  have hs := flat_of_before _ h
  have hq := flat_of_before _ hr
  have hc : (Cond.count 1).before args s = true := hs _ (by decide +kernel)
  have harr : (Cond.arrayOf (.arg 0) .int).before args s = true := hs _ (by decide +kernel)
  have hle : (Cond.le (.length (.arg 0)) (.int 2560)).before args s = true := hs _ (by decide +kernel)
  have hlen : (Cond.isInt (.length (.arg 0))).before args s = true := hq _ (by decide +kernel)
  have hall : (Cond.all (.arg 0) (.isInt (.elem (.arg 0) (.index 0)))).before args s = true := hq _ (by decide +kernel)
  obtain ⟨b, xs, hb, hx⟩ := State.ints_of_pre rfl harr hlen hall
  have hsm : xs.length < 2 ^ 31 := hx.choose_spec.2.2.2
  have hev : (Term.length (.arg 0)).eval args s none [] s = some (.int xs.length.toInt32) := hx.length_eval hb
  have hv := Cond.le_ints hev (show (Term.int 2560).eval args s none [] s = some (.int 2560) from rfl)
  have hd : xs.length.toInt32 ≤ 2560 := by
    simpa [Cond.before, Cond.holds, hv] using hle
  have hN : xs.length ≤ 2560 := (Int32.ofNat_le_ofNat hsm (by decide)).mp (show Int32.ofNat xs.length ≤ Int32.ofNat 2560 from hd)
  exact ⟨b, xs, Cond.one_arg hc (show args[0]? = some (.ref b) from hb), hx, hN, h⟩
theorem lw_comes (l : Launch) : Comes l x (Jvm.Cond.code x code maxLocals ret :: tables_1) room_1 (fun tb e args s => Calls_1 tb e args s ∧ rest_1 tb e args s ∧ Pre_1 tb e args s)
    (fun _ _ args s o t => lw_Q args s o t) := by
  intro p e ha hc hk s m args below hf hfit hheap happ hpre
  obtain ⟨b, xs, hP⟩ := lw_pre_spec hpre.2.2 hpre.2.1
  obtain ⟨k, o, h1, h2, h3, hQ⟩ := lw_walk l b xs p e ha hc hk s m args below hf ((Spec.applies_iff_loose hf).mp happ).1 hP trivial
  exact ⟨k, o, h1, h2, h3, hQ⟩
theorem lw_frame {s t : State} {o : Outcome} {args : Array Value} (h : Framed s o t [] 600000 7302250) :
    Framed s o t (fieldLocs frame_1_writes args s ++ arrayLocs frame_1_arrays args s ++ staticLocs frame_1_statics s) 600000 7302250 := h
theorem lw_limb (L : Cond) (hL : ∀ (args : Array Value) (s t : State), L.after args s (.returned (some (.int 1))) t = true) :
    ArmFor flags0 classFile x code maxLocals ret World_1 tables_1 room_1 Calls_1 rest_1 Pre_1
      (fun tb e a s o t => postC L tb e a s o t ∧ Framed s o t (fieldLocs frame_1_writes a s ++ arrayLocs frame_1_arrays a s ++ staticLocs frame_1_statics s) 600000 7302250) := by
  intro l _ _ _ p e ha hc hk s m args below hf hfit hheap happ hpre
  obtain ⟨k, o, h1, h2, h3, rfl, hF⟩ := lw_comes l p e ha hc hk s m args below hf hfit hheap happ hpre
  exact ⟨k, _, h1, h2, h3, hL args s _, lw_frame hF⟩
theorem i_vc : Claimed_1_1 ∧ Claimed_1_2 := ⟨lw_limb limb_1_1 (fun args s t => by simp [limb_1_1, Cond.after, Cond.holds, Cond.value]), lw_limb limb_1_2 (fun args s t => Cond.after_iff.mpr (by
  first | (rw [show limb_1_2 = Cond.eq .result (.int 1) from rfl, Cond.eq_ints (x := 1) (y := 1) rfl rfl]; simp; done) | (simp [limb_1_2, Cond.value, Term.eval]; done)))⟩
