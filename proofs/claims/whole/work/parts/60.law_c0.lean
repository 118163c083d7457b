set_option maxHeartbeats 4000000 in
set_option maxRecDepth 100000 in
theorem lc_mark {p : Program} {l : Launch} {e : Env} {s : State} {m : MethodId} {args : Array Value} {below : List Frame} {meth : Method} {c : Code} {Q : State → Prop} {D : va_G} {C : Nat → ClassId} {A : Nat → Prop} {ax am af ap ab ar a : Nat → Nat} {b LL i : Nat} {xs : Nat → Int32} {N lm om L : Nat} {M Bk Rt Z : Nat → Nat → Int32} {F Pt Y : Nat → Nat → Int64} {fm : Int32} {pi : Nat → Int32} {H : Heap} {locs : List Loc} {ls : Array Slot} (hC : Lc p s m c args D C A b LL xs) (hi : i + 5 ≤ LL) (hsim : SimA M Bk Rt Z N lm om L) (hP : va_P D vwCl (WW ax am af ap ab ar a C M F fm Pt pi Bk Rt Z Y) H) (hD : va_D A (WW ax am af ap ab ar a C M F fm Pt pi Bk Rt Z Y)) (hS : va_S A s.heap H locs) (hl : lv_has ls 4 [(0, .ref b), (1, .ref (ax 0)), (2, .ref (a 0)), (3, .int (nI i))])
    (kk : Lk p l e s m args below meth c Q D C A ax am af ap ab ar a ls) : W p l e room_1 s m args below meth c H locs 600000 7302250 Q (F0 m 132 ls []) := by
  obtain ⟨hx, hb, hml, hown, hW, hX, hbl, hbA, hA, hK, hNw, hLL⟩ := hC
  obtain ⟨hSX, hSB, hSR⟩ := id hsim
  have hN : M 6 0 = nI N := hSX.1.1.2.1
  have hN12 : N ≤ 12 := hSX.1.1.1
  have hZN : Z 12 0 = nI N := hSX.1.1.2.2.1
  have hL : Bk 8 0 = nI L := hSB.1.2.1
  have hL60 : L ≤ 60 := hSB.1.1
  have hZL : Z 12 1 = nI L := hSB.1.2.2.1
  have hRok : rtok Rt := hSR.2.2.1
  refine lv_aload_n hx hb d_law_132 rfl (lv_at hl 1 rfl) ?_
  refine lv_aload_n hx hb d_law_133 rfl (lv_at hl 0 rfl) ?_
  refine lv_iload_n hx hb d_law_134 rfl (lv_at hl 3 rfl) ?_
  refine lv_iconst (v := 1) hx hb d_law_135 (by decide) ?_
  refine lv_iadd hx hb d_law_136 ?_
  refine xsld hx hb hX hbl hbA hS (i + 1) (q_add rfl rfl) (by omega) hLL d_law_137 ?_
  refine lv_aload_n hx hb d_law_138 rfl (lv_at hl 0 rfl) ?_
  refine lv_iload_n hx hb d_law_139 rfl (lv_at hl 3 rfl) ?_
  refine lv_iconst (v := 2) hx hb d_law_140 (by decide) ?_
  refine lv_iadd hx hb d_law_141 ?_
  refine xsld hx hb hX hbl hbA hS (i + 2) (q_add rfl rfl) (by omega) hLL d_law_142 ?_
  refine lv_aload_n hx hb d_law_143 rfl (lv_at hl 0 rfl) ?_
  refine lv_iload_n hx hb d_law_144 rfl (lv_at hl 3 rfl) ?_
  refine lv_iconst (v := 3) hx hb d_law_145 (by decide) ?_
  refine lv_iadd hx hb d_law_146 ?_
  refine xsld hx hb hX hbl hbA hS (i + 3) (q_add rfl rfl) (by omega) hLL d_law_147 ?_
  refine lv_aload_n hx hb d_law_148 rfl (lv_at hl 0 rfl) ?_
  refine lv_iload_n hx hb d_law_149 rfl (lv_at hl 3 rfl) ?_
  refine lv_iconst (v := 4) hx hb d_law_150 (by decide) ?_
  refine lv_iadd hx hb d_law_151 ?_
  refine xsld hx hb hX hbl hbA hS (i + 4) (q_add rfl rfl) (by omega) hLL d_law_152 ?_
  refine gXM_i (M' := (f6_mark_M M N (xs (i + 1)) (xs (i + 2)) (xs (i + 3)) (xs (i + 4)))) (r := (f6_mark M N (xs (i + 1)) (xs (i + 2)) (xs (i + 3)) (xs (i + 4)))) (rV (As := [.int (xs (i + 1)), .int (xs (i + 2)), .int (xs (i + 3)), .int (xs (i + 4))]) (n := 4) (rest := []) ⟨hx, hb, hml, hown, hW⟩ (kX6_mark l D C ax am af ap ab ar M (xs (i + 1)) (xs (i + 2)) (xs (i + 3)) (xs (i + 4)) H.size N hN hN12) (wa tw256 rfl) (wa tw253 rfl) (wa tw254 rfl) (wa tw255 rfl) (wa tw1 rfl) (by decide +kernel) ⟨(Nat.le_of_ble_eq_true rfl), (Nat.le_of_ble_eq_true rfl)⟩ (pVw (sXM hP) (tXM hD) hK hNw 0 rfl rfl) hl.1 rfl (Nat.le_of_ble_eq_true rfl) d_law_153 ⟨(Nat.le_of_ble_eq_true rfl), (Nat.le_of_ble_eq_true rfl)⟩ rfl rfl rfl) hP hD hS hA (fun H locs hP hD hS => ?_)
  refine lv_aload_n hx hb d_law_156 rfl (lv_at hl 2 rfl) ?_
  refine lv_aload_n hx hb d_law_157 rfl (lv_at hl 0 rfl) ?_
  refine lv_iload_n hx hb d_law_158 rfl (lv_at hl 3 rfl) ?_
  refine lv_iconst (v := 1) hx hb d_law_159 (by decide) ?_
  refine lv_iadd hx hb d_law_160 ?_
  refine xsld hx hb hX hbl hbA hS (i + 1) (q_add rfl rfl) (by omega) hLL d_law_161 ?_
  refine lv_aload_n hx hb d_law_162 rfl (lv_at hl 0 rfl) ?_
  refine lv_iload_n hx hb d_law_163 rfl (lv_at hl 3 rfl) ?_
  refine lv_iconst (v := 2) hx hb d_law_164 (by decide) ?_
  refine lv_iadd hx hb d_law_165 ?_
  refine xsld hx hb hX hbl hbA hS (i + 2) (q_add rfl rfl) (by omega) hLL d_law_166 ?_
  refine lv_aload_n hx hb d_law_167 rfl (lv_at hl 0 rfl) ?_
  refine lv_iload_n hx hb d_law_168 rfl (lv_at hl 3 rfl) ?_
  refine lv_iconst (v := 3) hx hb d_law_169 (by decide) ?_
  refine lv_iadd hx hb d_law_170 ?_
  refine xsld hx hb hX hbl hbA hS (i + 3) (q_add rfl rfl) (by omega) hLL d_law_171 ?_
  refine lv_aload_n hx hb d_law_172 rfl (lv_at hl 0 rfl) ?_
  refine lv_iload_n hx hb d_law_173 rfl (lv_at hl 3 rfl) ?_
  refine lv_iconst (v := 4) hx hb d_law_174 (by decide) ?_
  refine lv_iadd hx hb d_law_175 ?_
  refine xsld hx hb hX hbl hbA hS (i + 4) (q_add rfl rfl) (by omega) hLL d_law_176 ?_
  refine gZ_i (Z' := (f7_mark_Z Z N (xs (i + 1)) (xs (i + 2)) (xs (i + 3)) (xs (i + 4)))) (Y' := Y) (r := (f7_mark Z N (xs (i + 1)) (xs (i + 2)) (xs (i + 3)) (xs (i + 4)))) (rV (As := [.int (xs (i + 1)), .int (xs (i + 2)), .int (xs (i + 3)), .int (xs (i + 4))]) (n := 4) (rest := [.int (f6_mark M N (xs (i + 1)) (xs (i + 2)) (xs (i + 3)) (xs (i + 4)))]) ⟨hx, hb, hml, hown, hW⟩ (kX7_mark l D C a Z Y (xs (i + 1)) (xs (i + 2)) (xs (i + 3)) (xs (i + 4)) H.size N hZN hN12) (wa tw623 rfl) (wa tw620 rfl) (wa tw621 rfl) (wa tw622 rfl) (wa tw8 rfl) (by decide +kernel) ⟨(Nat.le_of_ble_eq_true rfl), (Nat.le_of_ble_eq_true rfl)⟩ (pVw (sZ hP) (tZ hD) hK hNw 0 rfl rfl) hl.1 rfl (Nat.le_of_ble_eq_true rfl) d_law_177 ⟨(Nat.le_of_ble_eq_true rfl), (Nat.le_of_ble_eq_true rfl)⟩ rfl rfl rfl) hP hD hS hA (fun H locs hP hD hS => ?_)
  obtain ⟨E, N2, lm2, om2, hX2⟩ := sim_mark hSX (xs (i + 1)) (xs (i + 2)) (xs (i + 3)) (xs (i + 4))
  exact lv_icmp_eq (tgt := 880) hx hb d_law_180 (by decide) (fun _ => kk _ _ _ _ _ _ _ _ _ _ _ _ _ _ _ ⟨hX2, SimB_fr hSB (frB_mark Z N (xs (i + 1)) (xs (i + 2)) (xs (i + 3)) (xs (i + 4))), SimR_fr hSR (frR_mark Z N (xs (i + 1)) (xs (i + 2)) (xs (i + 3)) (xs (i + 4)))⟩ hP hD hS) (fun q => absurd E q)

set_option maxHeartbeats 4000000 in
set_option maxRecDepth 100000 in
theorem lc_read {p : Program} {l : Launch} {e : Env} {s : State} {m : MethodId} {args : Array Value} {below : List Frame} {meth : Method} {c : Code} {Q : State → Prop} {D : va_G} {C : Nat → ClassId} {A : Nat → Prop} {ax am af ap ab ar a : Nat → Nat} {b LL i : Nat} {xs : Nat → Int32} {N lm om L : Nat} {M Bk Rt Z : Nat → Nat → Int32} {F Pt Y : Nat → Nat → Int64} {fm : Int32} {pi : Nat → Int32} {H : Heap} {locs : List Loc} {ls : Array Slot} (hC : Lc p s m c args D C A b LL xs) (hi : i + 5 ≤ LL) (hsim : SimA M Bk Rt Z N lm om L) (hP : va_P D vwCl (WW ax am af ap ab ar a C M F fm Pt pi Bk Rt Z Y) H) (hD : va_D A (WW ax am af ap ab ar a C M F fm Pt pi Bk Rt Z Y)) (hS : va_S A s.heap H locs) (hl : lv_has ls 4 [(0, .ref b), (1, .ref (ax 0)), (2, .ref (a 0)), (3, .int (nI i))])
    (kk : Lk p l e s m args below meth c Q D C A ax am af ap ab ar a ls) : W p l e room_1 s m args below meth c H locs 600000 7302250 Q (F0 m 185 ls []) := by
  obtain ⟨hx, hb, hml, hown, hW, hX, hbl, hbA, hA, hK, hNw, hLL⟩ := hC
  obtain ⟨hSX, hSB, hSR⟩ := id hsim
  have hN : M 6 0 = nI N := hSX.1.1.2.1
  have hN12 : N ≤ 12 := hSX.1.1.1
  have hZN : Z 12 0 = nI N := hSX.1.1.2.2.1
  have hL : Bk 8 0 = nI L := hSB.1.2.1
  have hL60 : L ≤ 60 := hSB.1.1
  have hZL : Z 12 1 = nI L := hSB.1.2.2.1
  have hRok : rtok Rt := hSR.2.2.1
  refine lv_aload_n hx hb d_law_185 rfl (lv_at hl 1 rfl) ?_
  refine lv_aload_n hx hb d_law_186 rfl (lv_at hl 0 rfl) ?_
  refine lv_iload_n hx hb d_law_187 rfl (lv_at hl 3 rfl) ?_
  refine lv_iconst (v := 1) hx hb d_law_188 (by decide) ?_
  refine lv_iadd hx hb d_law_189 ?_
  refine xsld hx hb hX hbl hbA hS (i + 1) (q_add rfl rfl) (by omega) hLL d_law_190 ?_
  refine lv_aload_n hx hb d_law_191 rfl (lv_at hl 0 rfl) ?_
  refine lv_iload_n hx hb d_law_192 rfl (lv_at hl 3 rfl) ?_
  refine lv_iconst (v := 2) hx hb d_law_193 (by decide) ?_
  refine lv_iadd hx hb d_law_194 ?_
  refine xsld hx hb hX hbl hbA hS (i + 2) (q_add rfl rfl) (by omega) hLL d_law_195 ?_
  refine lv_aload_n hx hb d_law_196 rfl (lv_at hl 0 rfl) ?_
  refine lv_iload_n hx hb d_law_197 rfl (lv_at hl 3 rfl) ?_
  refine lv_iconst (v := 3) hx hb d_law_198 (by decide) ?_
  refine lv_iadd hx hb d_law_199 ?_
  refine xsld hx hb hX hbl hbA hS (i + 3) (q_add rfl rfl) (by omega) hLL d_law_200 ?_
  refine gXM_i (M' := (f6_read_M M (xs (i + 1)) (xs (i + 2)) (xs (i + 3)))) (r := (f6_read M (xs (i + 1)) (xs (i + 2)) (xs (i + 3)))) (rV (As := [.int (xs (i + 1)), .int (xs (i + 2)), .int (xs (i + 3))]) (n := 3) (rest := []) ⟨hx, hb, hml, hown, hW⟩ (kX6_read l D C ax am af ap ab ar M (xs (i + 1)) (xs (i + 2)) (xs (i + 3)) H.size N hN hN12) (wa tw269 rfl) (wa tw266 rfl) (wa tw267 rfl) (wa tw268 rfl) (wa tw1 rfl) (by decide +kernel) ⟨(Nat.le_of_ble_eq_true rfl), (Nat.le_of_ble_eq_true rfl)⟩ (pVw (sXM hP) (tXM hD) hK hNw 0 rfl rfl) hl.1 rfl (Nat.le_of_ble_eq_true rfl) d_law_201 ⟨(Nat.le_of_ble_eq_true rfl), (Nat.le_of_ble_eq_true rfl)⟩ rfl rfl rfl) hP hD hS hA (fun H locs hP hD hS => ?_)
  refine lv_aload_n hx hb d_law_204 rfl (lv_at hl 2 rfl) ?_
  refine lv_aload_n hx hb d_law_205 rfl (lv_at hl 0 rfl) ?_
  refine lv_iload_n hx hb d_law_206 rfl (lv_at hl 3 rfl) ?_
  refine lv_iconst (v := 1) hx hb d_law_207 (by decide) ?_
  refine lv_iadd hx hb d_law_208 ?_
  refine xsld hx hb hX hbl hbA hS (i + 1) (q_add rfl rfl) (by omega) hLL d_law_209 ?_
  refine lv_aload_n hx hb d_law_210 rfl (lv_at hl 0 rfl) ?_
  refine lv_iload_n hx hb d_law_211 rfl (lv_at hl 3 rfl) ?_
  refine lv_iconst (v := 2) hx hb d_law_212 (by decide) ?_
  refine lv_iadd hx hb d_law_213 ?_
  refine xsld hx hb hX hbl hbA hS (i + 2) (q_add rfl rfl) (by omega) hLL d_law_214 ?_
  refine lv_aload_n hx hb d_law_215 rfl (lv_at hl 0 rfl) ?_
  refine lv_iload_n hx hb d_law_216 rfl (lv_at hl 3 rfl) ?_
  refine lv_iconst (v := 3) hx hb d_law_217 (by decide) ?_
  refine lv_iadd hx hb d_law_218 ?_
  refine xsld hx hb hX hbl hbA hS (i + 3) (q_add rfl rfl) (by omega) hLL d_law_219 ?_
  refine gZ_i (Z' := (f7_read_Z Z (xs (i + 1)) (xs (i + 2)) (xs (i + 3)))) (Y' := Y) (r := (f7_read Z (xs (i + 1)) (xs (i + 2)) (xs (i + 3)))) (rV (As := [.int (xs (i + 1)), .int (xs (i + 2)), .int (xs (i + 3))]) (n := 3) (rest := [.int (f6_read M (xs (i + 1)) (xs (i + 2)) (xs (i + 3)))]) ⟨hx, hb, hml, hown, hW⟩ (kX7_read l D C a Z Y (xs (i + 1)) (xs (i + 2)) (xs (i + 3)) H.size N hZN hN12) (wa tw636 rfl) (wa tw633 rfl) (wa tw634 rfl) (wa tw635 rfl) (wa tw8 rfl) (by decide +kernel) ⟨(Nat.le_of_ble_eq_true rfl), (Nat.le_of_ble_eq_true rfl)⟩ (pVw (sZ hP) (tZ hD) hK hNw 0 rfl rfl) hl.1 rfl (Nat.le_of_ble_eq_true rfl) d_law_220 ⟨(Nat.le_of_ble_eq_true rfl), (Nat.le_of_ble_eq_true rfl)⟩ rfl rfl rfl) hP hD hS hA (fun H locs hP hD hS => ?_)
  obtain ⟨E, lm2, om2, hX2⟩ := sim_read hSX (xs (i + 1)) (xs (i + 2)) (xs (i + 3))
  exact lv_icmp_eq (tgt := 880) hx hb d_law_223 (by decide) (fun _ => kk _ _ _ _ _ _ _ _ _ _ _ _ _ _ _ ⟨hX2, SimB_fr hSB (frB_read Z (xs (i + 1)) (xs (i + 2)) (xs (i + 3))), SimR_fr hSR (frR_read Z (xs (i + 1)) (xs (i + 2)) (xs (i + 3)))⟩ hP hD hS) (fun q => absurd E q)

set_option maxHeartbeats 4000000 in
set_option maxRecDepth 100000 in
theorem lc_lose {p : Program} {l : Launch} {e : Env} {s : State} {m : MethodId} {args : Array Value} {below : List Frame} {meth : Method} {c : Code} {Q : State → Prop} {D : va_G} {C : Nat → ClassId} {A : Nat → Prop} {ax am af ap ab ar a : Nat → Nat} {b LL i : Nat} {xs : Nat → Int32} {N lm om L : Nat} {M Bk Rt Z : Nat → Nat → Int32} {F Pt Y : Nat → Nat → Int64} {fm : Int32} {pi : Nat → Int32} {H : Heap} {locs : List Loc} {ls : Array Slot} (hC : Lc p s m c args D C A b LL xs) (hi : i + 5 ≤ LL) (hsim : SimA M Bk Rt Z N lm om L) (hP : va_P D vwCl (WW ax am af ap ab ar a C M F fm Pt pi Bk Rt Z Y) H) (hD : va_D A (WW ax am af ap ab ar a C M F fm Pt pi Bk Rt Z Y)) (hS : va_S A s.heap H locs) (hl : lv_has ls 4 [(0, .ref b), (1, .ref (ax 0)), (2, .ref (a 0)), (3, .int (nI i))])
    (kk : Lk p l e s m args below meth c Q D C A ax am af ap ab ar a ls) : W p l e room_1 s m args below meth c H locs 600000 7302250 Q (F0 m 228 ls []) := by
  obtain ⟨hx, hb, hml, hown, hW, hX, hbl, hbA, hA, hK, hNw, hLL⟩ := hC
  obtain ⟨hSX, hSB, hSR⟩ := id hsim
  have hN : M 6 0 = nI N := hSX.1.1.2.1
  have hN12 : N ≤ 12 := hSX.1.1.1
  have hZN : Z 12 0 = nI N := hSX.1.1.2.2.1
  have hL : Bk 8 0 = nI L := hSB.1.2.1
  have hL60 : L ≤ 60 := hSB.1.1
  have hZL : Z 12 1 = nI L := hSB.1.2.2.1
  have hRok : rtok Rt := hSR.2.2.1
  refine lv_aload_n hx hb d_law_228 rfl (lv_at hl 1 rfl) ?_
  refine lv_aload_n hx hb d_law_229 rfl (lv_at hl 0 rfl) ?_
  refine lv_iload_n hx hb d_law_230 rfl (lv_at hl 3 rfl) ?_
  refine lv_iconst (v := 1) hx hb d_law_231 (by decide) ?_
  refine lv_iadd hx hb d_law_232 ?_
  refine xsld hx hb hX hbl hbA hS (i + 1) (q_add rfl rfl) (by omega) hLL d_law_233 ?_
  refine gXM_i (M' := (f6_lose_M M (xs (i + 1)))) (r := (f6_lose M (xs (i + 1)))) (rV (As := [.int (xs (i + 1))]) (n := 1) (rest := []) ⟨hx, hb, hml, hown, hW⟩ (kX6_lose l D C ax am af ap ab ar M (xs (i + 1)) H.size N hN hN12) (wa tw282 rfl) (wa tw279 rfl) (wa tw280 rfl) (wa tw281 rfl) (wa tw1 rfl) (by decide +kernel) ⟨(Nat.le_of_ble_eq_true rfl), (Nat.le_of_ble_eq_true rfl)⟩ (pVw (sXM hP) (tXM hD) hK hNw 0 rfl rfl) hl.1 rfl (Nat.le_of_ble_eq_true rfl) d_law_234 ⟨(Nat.le_of_ble_eq_true rfl), (Nat.le_of_ble_eq_true rfl)⟩ rfl rfl rfl) hP hD hS hA (fun H locs hP hD hS => ?_)
  refine lv_aload_n hx hb d_law_237 rfl (lv_at hl 2 rfl) ?_
  refine lv_aload_n hx hb d_law_238 rfl (lv_at hl 0 rfl) ?_
  refine lv_iload_n hx hb d_law_239 rfl (lv_at hl 3 rfl) ?_
  refine lv_iconst (v := 1) hx hb d_law_240 (by decide) ?_
  refine lv_iadd hx hb d_law_241 ?_
  refine xsld hx hb hX hbl hbA hS (i + 1) (q_add rfl rfl) (by omega) hLL d_law_242 ?_
  refine gZ_i (Z' := (f7_lose_Z Z (xs (i + 1)))) (Y' := Y) (r := (f7_lose Z (xs (i + 1)))) (rV (As := [.int (xs (i + 1))]) (n := 1) (rest := [.int (f6_lose M (xs (i + 1)))]) ⟨hx, hb, hml, hown, hW⟩ (kX7_lose l D C a Z Y (xs (i + 1)) H.size N hZN hN12) (wa tw647 rfl) (wa tw644 rfl) (wa tw645 rfl) (wa tw646 rfl) (wa tw8 rfl) (by decide +kernel) ⟨(Nat.le_of_ble_eq_true rfl), (Nat.le_of_ble_eq_true rfl)⟩ (pVw (sZ hP) (tZ hD) hK hNw 0 rfl rfl) hl.1 rfl (Nat.le_of_ble_eq_true rfl) d_law_243 ⟨(Nat.le_of_ble_eq_true rfl), (Nat.le_of_ble_eq_true rfl)⟩ rfl rfl rfl) hP hD hS hA (fun H locs hP hD hS => ?_)
  obtain ⟨E, lm2, om2, hX2⟩ := sim_lose hSX (xs (i + 1))
  exact lv_icmp_eq (tgt := 880) hx hb d_law_246 (by decide) (fun _ => kk _ _ _ _ _ _ _ _ _ _ _ _ _ _ _ ⟨hX2, SimB_fr hSB (frB_lose Z (xs (i + 1))), SimR_fr hSR (frR_lose Z (xs (i + 1)))⟩ hP hD hS) (fun q => absurd E q)

set_option maxHeartbeats 4000000 in
set_option maxRecDepth 100000 in
theorem lc_told {p : Program} {l : Launch} {e : Env} {s : State} {m : MethodId} {args : Array Value} {below : List Frame} {meth : Method} {c : Code} {Q : State → Prop} {D : va_G} {C : Nat → ClassId} {A : Nat → Prop} {ax am af ap ab ar a : Nat → Nat} {b LL i : Nat} {xs : Nat → Int32} {N lm om L : Nat} {M Bk Rt Z : Nat → Nat → Int32} {F Pt Y : Nat → Nat → Int64} {fm : Int32} {pi : Nat → Int32} {H : Heap} {locs : List Loc} {ls : Array Slot} (hC : Lc p s m c args D C A b LL xs) (hi : i + 5 ≤ LL) (hsim : SimA M Bk Rt Z N lm om L) (hP : va_P D vwCl (WW ax am af ap ab ar a C M F fm Pt pi Bk Rt Z Y) H) (hD : va_D A (WW ax am af ap ab ar a C M F fm Pt pi Bk Rt Z Y)) (hS : va_S A s.heap H locs) (hl : lv_has ls 4 [(0, .ref b), (1, .ref (ax 0)), (2, .ref (a 0)), (3, .int (nI i))])
    (kk : Lk p l e s m args below meth c Q D C A ax am af ap ab ar a ls) : W p l e room_1 s m args below meth c H locs 600000 7302250 Q (F0 m 251 ls []) := by
  obtain ⟨hx, hb, hml, hown, hW, hX, hbl, hbA, hA, hK, hNw, hLL⟩ := hC
  obtain ⟨hSX, hSB, hSR⟩ := id hsim
  have hN : M 6 0 = nI N := hSX.1.1.2.1
  have hN12 : N ≤ 12 := hSX.1.1.1
  have hZN : Z 12 0 = nI N := hSX.1.1.2.2.1
  have hL : Bk 8 0 = nI L := hSB.1.2.1
  have hL60 : L ≤ 60 := hSB.1.1
  have hZL : Z 12 1 = nI L := hSB.1.2.2.1
  have hRok : rtok Rt := hSR.2.2.1
  refine lv_aload_n hx hb d_law_251 rfl (lv_at hl 1 rfl) ?_
  refine lv_aload_n hx hb d_law_252 rfl (lv_at hl 0 rfl) ?_
  refine lv_iload_n hx hb d_law_253 rfl (lv_at hl 3 rfl) ?_
  refine lv_iconst (v := 1) hx hb d_law_254 (by decide) ?_
  refine lv_iadd hx hb d_law_255 ?_
  refine xsld hx hb hX hbl hbA hS (i + 1) (q_add rfl rfl) (by omega) hLL d_law_256 ?_
  refine lv_aload_n hx hb d_law_257 rfl (lv_at hl 0 rfl) ?_
  refine lv_iload_n hx hb d_law_258 rfl (lv_at hl 3 rfl) ?_
  refine lv_iconst (v := 2) hx hb d_law_259 (by decide) ?_
  refine lv_iadd hx hb d_law_260 ?_
  refine xsld hx hb hX hbl hbA hS (i + 2) (q_add rfl rfl) (by omega) hLL d_law_261 ?_
  refine xri (r := (f6_told M (xs (i + 1)) (xs (i + 2)))) (rV (As := [.int (xs (i + 1)), .int (xs (i + 2))]) (n := 2) (rest := []) ⟨hx, hb, hml, hown, hW⟩ (kX6_told l D C ax am af ap ab ar M (xs (i + 1)) (xs (i + 2)) N hN hN12) (wa tw294 rfl) (wa tw291 rfl) (wa tw292 rfl) (wa tw293 rfl) (wa tw1 rfl) (by decide +kernel) ⟨(Nat.le_of_ble_eq_true rfl), (Nat.le_of_ble_eq_true rfl)⟩ (pVr (sXM hP) hK hNw 0 rfl rfl) hl.1 rfl (Nat.le_of_ble_eq_true rfl) d_law_262 ⟨(Nat.le_of_ble_eq_true rfl), (Nat.le_of_ble_eq_true rfl)⟩ rfl rfl rfl) ?_
  refine lv_aload_n hx hb d_law_265 rfl (lv_at hl 2 rfl) ?_
  refine lv_aload_n hx hb d_law_266 rfl (lv_at hl 0 rfl) ?_
  refine lv_iload_n hx hb d_law_267 rfl (lv_at hl 3 rfl) ?_
  refine lv_iconst (v := 1) hx hb d_law_268 (by decide) ?_
  refine lv_iadd hx hb d_law_269 ?_
  refine xsld hx hb hX hbl hbA hS (i + 1) (q_add rfl rfl) (by omega) hLL d_law_270 ?_
  refine lv_aload_n hx hb d_law_271 rfl (lv_at hl 0 rfl) ?_
  refine lv_iload_n hx hb d_law_272 rfl (lv_at hl 3 rfl) ?_
  refine lv_iconst (v := 2) hx hb d_law_273 (by decide) ?_
  refine lv_iadd hx hb d_law_274 ?_
  refine xsld hx hb hX hbl hbA hS (i + 2) (q_add rfl rfl) (by omega) hLL d_law_275 ?_
  refine xri (r := (f7_told Z (xs (i + 1)) (xs (i + 2)))) (rV (As := [.int (xs (i + 1)), .int (xs (i + 2))]) (n := 2) (rest := [.int (f6_told M (xs (i + 1)) (xs (i + 2)))]) ⟨hx, hb, hml, hown, hW⟩ (kX7_told l D C a Z Y (xs (i + 1)) (xs (i + 2)) N hZN hN12) (wa tw651 rfl) (wa tw648 rfl) (wa tw649 rfl) (wa tw650 rfl) (wa tw8 rfl) (by decide +kernel) ⟨(Nat.le_of_ble_eq_true rfl), (Nat.le_of_ble_eq_true rfl)⟩ (pVr (sZ hP) hK hNw 0 rfl rfl) hl.1 rfl (Nat.le_of_ble_eq_true rfl) d_law_276 ⟨(Nat.le_of_ble_eq_true rfl), (Nat.le_of_ble_eq_true rfl)⟩ rfl rfl rfl) ?_
  have E := sim_told hSX.1 (xs (i + 1)) (xs (i + 2))
  exact lv_icmp_eq (tgt := 880) hx hb d_law_279 (by decide) (fun _ => kk _ _ _ _ _ _ _ _ _ _ _ _ _ _ _ hsim hP hD hS) (fun q => absurd E q)

set_option maxHeartbeats 4000000 in
set_option maxRecDepth 100000 in
theorem lc_count {p : Program} {l : Launch} {e : Env} {s : State} {m : MethodId} {args : Array Value} {below : List Frame} {meth : Method} {c : Code} {Q : State → Prop} {D : va_G} {C : Nat → ClassId} {A : Nat → Prop} {ax am af ap ab ar a : Nat → Nat} {b LL i : Nat} {xs : Nat → Int32} {N lm om L : Nat} {M Bk Rt Z : Nat → Nat → Int32} {F Pt Y : Nat → Nat → Int64} {fm : Int32} {pi : Nat → Int32} {H : Heap} {locs : List Loc} {ls : Array Slot} (hC : Lc p s m c args D C A b LL xs) (hi : i + 5 ≤ LL) (hsim : SimA M Bk Rt Z N lm om L) (hP : va_P D vwCl (WW ax am af ap ab ar a C M F fm Pt pi Bk Rt Z Y) H) (hD : va_D A (WW ax am af ap ab ar a C M F fm Pt pi Bk Rt Z Y)) (hS : va_S A s.heap H locs) (hl : lv_has ls 4 [(0, .ref b), (1, .ref (ax 0)), (2, .ref (a 0)), (3, .int (nI i))])
    (kk : Lk p l e s m args below meth c Q D C A ax am af ap ab ar a ls) : W p l e room_1 s m args below meth c H locs 600000 7302250 Q (F0 m 284 ls []) := by
  obtain ⟨hx, hb, hml, hown, hW, hX, hbl, hbA, hA, hK, hNw, hLL⟩ := hC
  obtain ⟨hSX, hSB, hSR⟩ := id hsim
  have hN : M 6 0 = nI N := hSX.1.1.2.1
  have hN12 : N ≤ 12 := hSX.1.1.1
  have hZN : Z 12 0 = nI N := hSX.1.1.2.2.1
  have hL : Bk 8 0 = nI L := hSB.1.2.1
  have hL60 : L ≤ 60 := hSB.1.1
  have hZL : Z 12 1 = nI L := hSB.1.2.2.1
  have hRok : rtok Rt := hSR.2.2.1
  refine lv_aload_n hx hb d_law_284 rfl (lv_at hl 1 rfl) ?_
  refine lv_aload_n hx hb d_law_285 rfl (lv_at hl 0 rfl) ?_
  refine lv_iload_n hx hb d_law_286 rfl (lv_at hl 3 rfl) ?_
  refine lv_iconst (v := 1) hx hb d_law_287 (by decide) ?_
  refine lv_iadd hx hb d_law_288 ?_
  refine xsld hx hb hX hbl hbA hS (i + 1) (q_add rfl rfl) (by omega) hLL d_law_289 ?_
  refine xri (r := (f6_count M Bk N L (xs (i + 1)))) (rV (As := [.int (xs (i + 1))]) (n := 1) (rest := []) ⟨hx, hb, hml, hown, hW⟩ (kX6_count l D C ax am af ap ab ar M Bk (xs (i + 1)) N hN hN12 L hL hL60) (wa tw298 rfl) (wa tw295 rfl) (wa tw296 rfl) (wa tw297 rfl) (wa tw1 rfl) (by decide +kernel) ⟨(Nat.le_of_ble_eq_true rfl), (Nat.le_of_ble_eq_true rfl)⟩ (pVr (sXMB hP) hK hNw 0 rfl rfl) hl.1 rfl (Nat.le_of_ble_eq_true rfl) d_law_290 ⟨(Nat.le_of_ble_eq_true rfl), (Nat.le_of_ble_eq_true rfl)⟩ rfl rfl rfl) ?_
  refine lv_aload_n hx hb d_law_293 rfl (lv_at hl 2 rfl) ?_
  refine lv_aload_n hx hb d_law_294 rfl (lv_at hl 0 rfl) ?_
  refine lv_iload_n hx hb d_law_295 rfl (lv_at hl 3 rfl) ?_
  refine lv_iconst (v := 1) hx hb d_law_296 (by decide) ?_
  refine lv_iadd hx hb d_law_297 ?_
  refine xsld hx hb hX hbl hbA hS (i + 1) (q_add rfl rfl) (by omega) hLL d_law_298 ?_
  refine xri (r := (f7_count Z N L (xs (i + 1)))) (rV (As := [.int (xs (i + 1))]) (n := 1) (rest := [.int (f6_count M Bk N L (xs (i + 1)))]) ⟨hx, hb, hml, hown, hW⟩ (kX7_count l D C a Z Y (xs (i + 1)) N hZN hN12 L hZL hL60) (wa tw656 rfl) (wa tw653 rfl) (wa tw654 rfl) (wa tw655 rfl) (wa tw8 rfl) (by decide +kernel) ⟨(Nat.le_of_ble_eq_true rfl), (Nat.le_of_ble_eq_true rfl)⟩ (pVr (sZ hP) hK hNw 0 rfl rfl) hl.1 rfl (Nat.le_of_ble_eq_true rfl) d_law_299 ⟨(Nat.le_of_ble_eq_true rfl), (Nat.le_of_ble_eq_true rfl)⟩ rfl rfl rfl) ?_
  have E := sim_count hSX.1 hSB (xs (i + 1))
  exact lv_icmp_eq (tgt := 880) hx hb d_law_302 (by decide) (fun _ => kk _ _ _ _ _ _ _ _ _ _ _ _ _ _ _ hsim hP hD hS) (fun q => absurd E q)

set_option maxHeartbeats 4000000 in
set_option maxRecDepth 100000 in
theorem lc_det {p : Program} {l : Launch} {e : Env} {s : State} {m : MethodId} {args : Array Value} {below : List Frame} {meth : Method} {c : Code} {Q : State → Prop} {D : va_G} {C : Nat → ClassId} {A : Nat → Prop} {ax am af ap ab ar a : Nat → Nat} {b LL i : Nat} {xs : Nat → Int32} {N lm om L : Nat} {M Bk Rt Z : Nat → Nat → Int32} {F Pt Y : Nat → Nat → Int64} {fm : Int32} {pi : Nat → Int32} {H : Heap} {locs : List Loc} {ls : Array Slot} (hC : Lc p s m c args D C A b LL xs) (hi : i + 5 ≤ LL) (hsim : SimA M Bk Rt Z N lm om L) (hP : va_P D vwCl (WW ax am af ap ab ar a C M F fm Pt pi Bk Rt Z Y) H) (hD : va_D A (WW ax am af ap ab ar a C M F fm Pt pi Bk Rt Z Y)) (hS : va_S A s.heap H locs) (hl : lv_has ls 4 [(0, .ref b), (1, .ref (ax 0)), (2, .ref (a 0)), (3, .int (nI i))])
    (kk : Lk p l e s m args below meth c Q D C A ax am af ap ab ar a ls) : W p l e room_1 s m args below meth c H locs 600000 7302250 Q (F0 m 307 ls []) := by
  obtain ⟨hx, hb, hml, hown, hW, hX, hbl, hbA, hA, hK, hNw, hLL⟩ := hC
  obtain ⟨hSX, hSB, hSR⟩ := id hsim
  have hN : M 6 0 = nI N := hSX.1.1.2.1
  have hN12 : N ≤ 12 := hSX.1.1.1
  have hZN : Z 12 0 = nI N := hSX.1.1.2.2.1
  have hL : Bk 8 0 = nI L := hSB.1.2.1
  have hL60 : L ≤ 60 := hSB.1.1
  have hZL : Z 12 1 = nI L := hSB.1.2.2.1
  have hRok : rtok Rt := hSR.2.2.1
  refine lv_aload_n hx hb d_law_307 rfl (lv_at hl 1 rfl) ?_
  refine lv_aload_n hx hb d_law_308 rfl (lv_at hl 0 rfl) ?_
  refine lv_iload_n hx hb d_law_309 rfl (lv_at hl 3 rfl) ?_
  refine lv_iconst (v := 1) hx hb d_law_310 (by decide) ?_
  refine lv_iadd hx hb d_law_311 ?_
  refine xsld hx hb hX hbl hbA hS (i + 1) (q_add rfl rfl) (by omega) hLL d_law_312 ?_
  refine gXFM_l (F' := (f6_det_F M F fm N (xs (i + 1)))) (fm' := (f6_det_fm M F fm N (xs (i + 1)))) (M' := M) (r := (f6_det M F fm N (xs (i + 1)))) (rV (As := [.int (xs (i + 1))]) (n := 1) (rest := []) ⟨hx, hb, hml, hown, hW⟩ (kX6_det l D C ax am af ap ab ar F fm M (xs (i + 1)) H.size N hN hN12) (wa tw329 rfl) (wa tw326 rfl) (wa tw327 rfl) (wa tw328 rfl) (wa tw1 rfl) (by decide +kernel) ⟨(Nat.le_of_ble_eq_true rfl), (Nat.le_of_ble_eq_true rfl)⟩ (pVw (sXFM hP) (tXFM hD) hK hNw 0 rfl rfl) hl.1 rfl (Nat.le_of_ble_eq_true rfl) d_law_313 ⟨(Nat.le_of_ble_eq_true rfl), (Nat.le_of_ble_eq_true rfl)⟩ rfl rfl rfl) hP hD hS hA (fun H locs hP hD hS => ?_)
  refine lv_aload_n hx hb d_law_316 rfl (lv_at hl 2 rfl) ?_
  refine lv_aload_n hx hb d_law_317 rfl (lv_at hl 0 rfl) ?_
  refine lv_iload_n hx hb d_law_318 rfl (lv_at hl 3 rfl) ?_
  refine lv_iconst (v := 1) hx hb d_law_319 (by decide) ?_
  refine lv_iadd hx hb d_law_320 ?_
  refine xsld hx hb hX hbl hbA hS (i + 1) (q_add rfl rfl) (by omega) hLL d_law_321 ?_
  refine gZ_l (Z' := Z) (Y' := (f7_det_Y Z Y N (xs (i + 1)))) (r := (f7_det Z Y N (xs (i + 1)))) (rV (As := [.int (xs (i + 1))]) (n := 1) (rest := [.long (f6_det M F fm N (xs (i + 1)))]) ⟨hx, hb, hml, hown, hW⟩ (kX7_det l D C a Z Y (xs (i + 1)) H.size N hZN hN12) (wa tw675 rfl) (wa tw672 rfl) (wa tw673 rfl) (wa tw674 rfl) (wa tw8 rfl) (by decide +kernel) ⟨(Nat.le_of_ble_eq_true rfl), (Nat.le_of_ble_eq_true rfl)⟩ (pVw (sZ hP) (tZ hD) hK hNw 0 rfl rfl) hl.1 rfl (Nat.le_of_ble_eq_true rfl) d_law_322 ⟨(Nat.le_of_ble_eq_true rfl), (Nat.le_of_ble_eq_true rfl)⟩ rfl rfl rfl) hP hD hS hA (fun H locs hP hD hS => ?_)
  have E := sim_det hSX.1 F Y fm (xs (i + 1))
  exact xlcmp_eq (tgt := 880) hx hb d_law_325 d_law_326 (by decide) (fun _ => kk _ _ _ _ _ _ _ _ _ _ _ _ _ _ _ hsim hP hD hS) (fun q => absurd E q)

set_option maxHeartbeats 4000000 in
set_option maxRecDepth 100000 in
theorem lc_fit {p : Program} {l : Launch} {e : Env} {s : State} {m : MethodId} {args : Array Value} {below : List Frame} {meth : Method} {c : Code} {Q : State → Prop} {D : va_G} {C : Nat → ClassId} {A : Nat → Prop} {ax am af ap ab ar a : Nat → Nat} {b LL i : Nat} {xs : Nat → Int32} {N lm om L : Nat} {M Bk Rt Z : Nat → Nat → Int32} {F Pt Y : Nat → Nat → Int64} {fm : Int32} {pi : Nat → Int32} {H : Heap} {locs : List Loc} {ls : Array Slot} (hC : Lc p s m c args D C A b LL xs) (hi : i + 5 ≤ LL) (hsim : SimA M Bk Rt Z N lm om L) (hP : va_P D vwCl (WW ax am af ap ab ar a C M F fm Pt pi Bk Rt Z Y) H) (hD : va_D A (WW ax am af ap ab ar a C M F fm Pt pi Bk Rt Z Y)) (hS : va_S A s.heap H locs) (hl : lv_has ls 4 [(0, .ref b), (1, .ref (ax 0)), (2, .ref (a 0)), (3, .int (nI i))])
    (kk : Lk p l e s m args below meth c Q D C A ax am af ap ab ar a ls) : W p l e room_1 s m args below meth c H locs 600000 7302250 Q (F0 m 331 ls []) := by
  obtain ⟨hx, hb, hml, hown, hW, hX, hbl, hbA, hA, hK, hNw, hLL⟩ := hC
  obtain ⟨hSX, hSB, hSR⟩ := id hsim
  have hN : M 6 0 = nI N := hSX.1.1.2.1
  have hN12 : N ≤ 12 := hSX.1.1.1
  have hZN : Z 12 0 = nI N := hSX.1.1.2.2.1
  have hL : Bk 8 0 = nI L := hSB.1.2.1
  have hL60 : L ≤ 60 := hSB.1.1
  have hZL : Z 12 1 = nI L := hSB.1.2.2.1
  have hRok : rtok Rt := hSR.2.2.1
  refine lv_aload_n hx hb d_law_331 rfl (lv_at hl 1 rfl) ?_
  refine lv_aload_n hx hb d_law_332 rfl (lv_at hl 0 rfl) ?_
  refine lv_iload_n hx hb d_law_333 rfl (lv_at hl 3 rfl) ?_
  refine lv_iconst (v := 1) hx hb d_law_334 (by decide) ?_
  refine lv_iadd hx hb d_law_335 ?_
  refine xsld hx hb hX hbl hbA hS (i + 1) (q_add rfl rfl) (by omega) hLL d_law_336 ?_
  refine lv_aload_n hx hb d_law_337 rfl (lv_at hl 0 rfl) ?_
  refine lv_iload_n hx hb d_law_338 rfl (lv_at hl 3 rfl) ?_
  refine lv_iconst (v := 2) hx hb d_law_339 (by decide) ?_
  refine lv_iadd hx hb d_law_340 ?_
  refine xsld hx hb hX hbl hbA hS (i + 2) (q_add rfl rfl) (by omega) hLL d_law_341 ?_
  refine lv_aload_n hx hb d_law_342 rfl (lv_at hl 0 rfl) ?_
  refine lv_iload_n hx hb d_law_343 rfl (lv_at hl 3 rfl) ?_
  refine lv_iconst (v := 3) hx hb d_law_344 (by decide) ?_
  refine lv_iadd hx hb d_law_345 ?_
  refine xsld hx hb hX hbl hbA hS (i + 3) (q_add rfl rfl) (by omega) hLL d_law_346 ?_
  refine lv_aload_n hx hb d_law_347 rfl (lv_at hl 0 rfl) ?_
  refine lv_iload_n hx hb d_law_348 rfl (lv_at hl 3 rfl) ?_
  refine lv_iconst (v := 4) hx hb d_law_349 (by decide) ?_
  refine lv_iadd hx hb d_law_350 ?_
  refine xsld hx hb hX hbl hbA hS (i + 4) (q_add rfl rfl) (by omega) hLL d_law_351 ?_
  refine gXFM_l (F' := (f6_fit_F M F fm N (xs (i + 1)) (xs (i + 2)) (xs (i + 3)) (xs (i + 4)))) (fm' := (f6_fit_fm M F fm N (xs (i + 1)) (xs (i + 2)) (xs (i + 3)) (xs (i + 4)))) (M' := M) (r := (f6_fit M F fm N (xs (i + 1)) (xs (i + 2)) (xs (i + 3)) (xs (i + 4)))) (rV (As := [.int (xs (i + 1)), .int (xs (i + 2)), .int (xs (i + 3)), .int (xs (i + 4))]) (n := 4) (rest := []) ⟨hx, hb, hml, hown, hW⟩ (kX6_fit l D C ax am af ap ab ar F fm M (xs (i + 1)) (xs (i + 2)) (xs (i + 3)) (xs (i + 4)) H.size N hN hN12) (wa tw367 rfl) (wa tw364 rfl) (wa tw365 rfl) (wa tw366 rfl) (wa tw1 rfl) (by decide +kernel) ⟨(Nat.le_of_ble_eq_true rfl), (Nat.le_of_ble_eq_true rfl)⟩ (pVw (sXFM hP) (tXFM hD) hK hNw 0 rfl rfl) hl.1 rfl (Nat.le_of_ble_eq_true rfl) d_law_352 ⟨(Nat.le_of_ble_eq_true rfl), (Nat.le_of_ble_eq_true rfl)⟩ rfl rfl rfl) hP hD hS hA (fun H locs hP hD hS => ?_)
  refine lv_aload_n hx hb d_law_355 rfl (lv_at hl 2 rfl) ?_
  refine lv_aload_n hx hb d_law_356 rfl (lv_at hl 0 rfl) ?_
  refine lv_iload_n hx hb d_law_357 rfl (lv_at hl 3 rfl) ?_
  refine lv_iconst (v := 1) hx hb d_law_358 (by decide) ?_
  refine lv_iadd hx hb d_law_359 ?_
  refine xsld hx hb hX hbl hbA hS (i + 1) (q_add rfl rfl) (by omega) hLL d_law_360 ?_
  refine lv_aload_n hx hb d_law_361 rfl (lv_at hl 0 rfl) ?_
  refine lv_iload_n hx hb d_law_362 rfl (lv_at hl 3 rfl) ?_
  refine lv_iconst (v := 2) hx hb d_law_363 (by decide) ?_
  refine lv_iadd hx hb d_law_364 ?_
  refine xsld hx hb hX hbl hbA hS (i + 2) (q_add rfl rfl) (by omega) hLL d_law_365 ?_
  refine lv_aload_n hx hb d_law_366 rfl (lv_at hl 0 rfl) ?_
  refine lv_iload_n hx hb d_law_367 rfl (lv_at hl 3 rfl) ?_
  refine lv_iconst (v := 3) hx hb d_law_368 (by decide) ?_
  refine lv_iadd hx hb d_law_369 ?_
  refine xsld hx hb hX hbl hbA hS (i + 3) (q_add rfl rfl) (by omega) hLL d_law_370 ?_
  refine lv_aload_n hx hb d_law_371 rfl (lv_at hl 0 rfl) ?_
  refine lv_iload_n hx hb d_law_372 rfl (lv_at hl 3 rfl) ?_
  refine lv_iconst (v := 4) hx hb d_law_373 (by decide) ?_
  refine lv_iadd hx hb d_law_374 ?_
  refine xsld hx hb hX hbl hbA hS (i + 4) (q_add rfl rfl) (by omega) hLL d_law_375 ?_
  refine gZ_l (Z' := Z) (Y' := (f7_fit_Y Z Y N (xs (i + 1)) (xs (i + 2)) (xs (i + 3)) (xs (i + 4)))) (r := (f7_fit Z Y N (xs (i + 1)) (xs (i + 2)) (xs (i + 3)) (xs (i + 4)))) (rV (As := [.int (xs (i + 1)), .int (xs (i + 2)), .int (xs (i + 3)), .int (xs (i + 4))]) (n := 4) (rest := [.long (f6_fit M F fm N (xs (i + 1)) (xs (i + 2)) (xs (i + 3)) (xs (i + 4)))]) ⟨hx, hb, hml, hown, hW⟩ (kX7_fit l D C a Z Y (xs (i + 1)) (xs (i + 2)) (xs (i + 3)) (xs (i + 4)) H.size N hZN hN12) (wa tw699 rfl) (wa tw696 rfl) (wa tw697 rfl) (wa tw698 rfl) (wa tw8 rfl) (by decide +kernel) ⟨(Nat.le_of_ble_eq_true rfl), (Nat.le_of_ble_eq_true rfl)⟩ (pVw (sZ hP) (tZ hD) hK hNw 0 rfl rfl) hl.1 rfl (Nat.le_of_ble_eq_true rfl) d_law_376 ⟨(Nat.le_of_ble_eq_true rfl), (Nat.le_of_ble_eq_true rfl)⟩ rfl rfl rfl) hP hD hS hA (fun H locs hP hD hS => ?_)
  have E := sim_fit hSX.1 F Y fm (xs (i + 1)) (xs (i + 2)) (xs (i + 3)) (xs (i + 4))
  exact xlcmp_eq (tgt := 880) hx hb d_law_379 d_law_380 (by decide) (fun _ => kk _ _ _ _ _ _ _ _ _ _ _ _ _ _ _ hsim hP hD hS) (fun q => absurd E q)
