/-! the law: the whole relation -/
def zX (Z V : Nat → Nat → Int32) : Prop := V 0 = Z 0 ∧ V 1 = Z 1 ∧ V 2 = Z 2 ∧ V 3 = Z 3 ∧ V 12 0 = Z 12 0
def zB (Z V : Nat → Nat → Int32) : Prop := V 4 = Z 4 ∧ V 5 = Z 5 ∧ V 6 = Z 6 ∧ V 7 = Z 7 ∧ V 8 = Z 8 ∧ V 12 1 = Z 12 1 ∧ V 12 2 = Z 12 2
def zR (Z V : Nat → Nat → Int32) : Prop := V 9 = Z 9 ∧ V 12 3 = Z 12 3 ∧ V 12 4 = Z 12 4
theorem SimX_fr {M Z V : Nat → Nat → Int32} {N lm om : Nat} (h : SimX M Z N lm om) (f : zX Z V) : SimX M V N lm om := by
  obtain ⟨f0, f1, f2, f3, f4⟩ := f
  unfold SimX SimM at *
  rw [f0, f1, f2, f3, f4]
  exact h
theorem SimB_fr {Bk Z V : Nat → Nat → Int32} {L : Nat} (h : SimB Bk Z L) (f : zB Z V) : SimB Bk V L := by
  obtain ⟨f0, f1, f2, f3, f4, f5, f6⟩ := f
  unfold SimB at *
  rw [f0, f1, f2, f3, f4, f5, f6]
  exact h
theorem SimR_fr {Rt Z V : Nat → Nat → Int32} (h : SimR Rt Z) (f : zR Z V) : SimR Rt V := by
  obtain ⟨f0, f1, f2⟩ := f
  unfold SimR at *
  rw [f0, f1, f2]
  exact h
def SimA (M Bk Rt Z : Nat → Nat → Int32) (N lm om L : Nat) : Prop := SimX M Z N lm om ∧ SimB Bk Z L ∧ SimR Rt Z
theorem frB_mark (Z : Nat → Nat → Int32) (N : Nat) (f g i j : Int32) : zB Z (f7_mark_Z Z N f g i j) := by
  unfold f7_mark_Z
  repeat' (first | split | exact ⟨rfl, rfl, rfl, rfl, rfl, rfl, rfl⟩)
theorem frR_mark (Z : Nat → Nat → Int32) (N : Nat) (f g i j : Int32) : zR Z (f7_mark_Z Z N f g i j) := by
  unfold f7_mark_Z
  repeat' (first | split | exact ⟨rfl, rfl, rfl⟩)
theorem frB_read (Z : Nat → Nat → Int32) (x al ac : Int32) : zB Z (f7_read_Z Z x al ac) := by
  unfold f7_read_Z
  repeat' (first | split | exact ⟨rfl, rfl, rfl, rfl, rfl, rfl, rfl⟩)
theorem frR_read (Z : Nat → Nat → Int32) (x al ac : Int32) : zR Z (f7_read_Z Z x al ac) := by
  unfold f7_read_Z
  repeat' (first | split | exact ⟨rfl, rfl, rfl⟩)
theorem frB_lose (Z : Nat → Nat → Int32) (x : Int32) : zB Z (f7_lose_Z Z x) := by
  unfold f7_lose_Z
  repeat' (first | split | exact ⟨rfl, rfl, rfl, rfl, rfl, rfl, rfl⟩)
theorem frR_lose (Z : Nat → Nat → Int32) (x : Int32) : zR Z (f7_lose_Z Z x) := by
  unfold f7_lose_Z
  repeat' (first | split | exact ⟨rfl, rfl, rfl⟩)
theorem frX_lot (Z : Nat → Nat → Int32) (L : Nat) (tool shift : Int32) : zX Z (f7_lot_Z Z L tool shift) := by
  unfold f7_lot_Z
  repeat' (first | split | exact ⟨rfl, rfl, rfl, rfl, rfl⟩)
theorem frR_lot (Z : Nat → Nat → Int32) (L : Nat) (tool shift : Int32) : zR Z (f7_lot_Z Z L tool shift) := by
  unfold f7_lot_Z
  repeat' (first | split | exact ⟨rfl, rfl, rfl⟩)
theorem frX_back (Z : Nat → Nat → Int32) (x rd : Int32) : zX Z (f7_back_Z Z x rd) := by
  unfold f7_back_Z
  repeat' (first | split | exact ⟨rfl, rfl, rfl, rfl, rfl⟩)
theorem frR_back (Z : Nat → Nat → Int32) (x rd : Int32) : zR Z (f7_back_Z Z x rd) := by
  unfold f7_back_Z
  repeat' (first | split | exact ⟨rfl, rfl, rfl⟩)
theorem frX_mend (Z : Nat → Nat → Int32) (L : Nat) (tool : Int32) : zX Z (f7_mend_Z Z L tool) := by
  unfold f7_mend_Z
  repeat' (first | split | exact ⟨rfl, rfl, rfl, rfl, rfl⟩)
theorem frR_mend (Z : Nat → Nat → Int32) (L : Nat) (tool : Int32) : zR Z (f7_mend_Z Z L tool) := by
  unfold f7_mend_Z
  repeat' (first | split | exact ⟨rfl, rfl, rfl⟩)
theorem frX_gain (Z : Nat → Nat → Int32) (v : Int32) : zX Z (f7_gain_Z Z v) := by
  unfold f7_gain_Z
  repeat' (first | split | exact ⟨rfl, rfl, rfl, rfl, rfl⟩)
theorem frR_gain (Z : Nat → Nat → Int32) (v : Int32) : zR Z (f7_gain_Z Z v) := by
  unfold f7_gain_Z
  repeat' (first | split | exact ⟨rfl, rfl, rfl⟩)
theorem frX_offset (Z : Nat → Nat → Int32) (tool layer v : Int32) : zX Z (f7_offset_Z Z tool layer v) := by
  unfold f7_offset_Z
  repeat' (first | split | exact ⟨rfl, rfl, rfl, rfl, rfl⟩)
theorem frB_offset (Z : Nat → Nat → Int32) (tool layer v : Int32) : zB Z (f7_offset_Z Z tool layer v) := by
  unfold f7_offset_Z
  repeat' (first | split | exact ⟨rfl, rfl, rfl, rfl, rfl, rfl, rfl⟩)
theorem frX_rule (Z : Nat → Nat → Int32) (what v : Int32) : zX Z (f7_rule_Z Z what v) := by
  unfold f7_rule_Z
  repeat' (first | split | exact ⟨rfl, rfl, rfl, rfl, rfl⟩)
theorem frB_rule (Z : Nat → Nat → Int32) (what v : Int32) : zB Z (f7_rule_Z Z what v) := by
  unfold f7_rule_Z
  repeat' (first | split | exact ⟨rfl, rfl, rfl, rfl, rfl, rfl, rfl⟩)
theorem frX_route (Z : Nat → Nat → Int32) (nn layer : Int32) : zX Z (f7_route_Z Z nn layer) := by
  unfold f7_route_Z
  repeat' (first | split | exact ⟨rfl, rfl, rfl, rfl, rfl⟩)
theorem frB_route (Z : Nat → Nat → Int32) (nn layer : Int32) : zB Z (f7_route_Z Z nn layer) := by
  unfold f7_route_Z
  repeat' (first | split | exact ⟨rfl, rfl, rfl, rfl, rfl, rfl, rfl⟩)
theorem frB_judge (Z : Nat → Nat → Int32) (Y : Nat → Nat → Int64) (N q0 : Nat) (model limit : Int32) : zB Z (f7_judge_Z Z Y N q0 model limit) := by
  unfold f7_judge_Z
  repeat' (first | split | exact ⟨rfl, rfl, rfl, rfl, rfl, rfl, rfl⟩)
theorem frR_judge (Z : Nat → Nat → Int32) (Y : Nat → Nat → Int64) (N q0 : Nat) (model limit : Int32) : zR Z (f7_judge_Z Z Y N q0 model limit) := by
  unfold f7_judge_Z
  repeat' (first | split | exact ⟨rfl, rfl, rfl⟩)
theorem SimA_0 : SimA (fun _ _ => 0) cB0 cR0 cZ0 0 0 0 0 := by
  refine ⟨⟨⟨⟨by decide, rfl, rfl, rfl, rfl, by decide, by decide⟩, fun k hk => absurd hk (Nat.not_lt_zero _), fun k hk => absurd hk (Nat.not_lt_zero _), fun k hk => absurd hk (Nat.not_lt_zero _), fun _ _ _ => ⟨rfl, rfl⟩, fun k hk => absurd hk (Nat.not_lt_zero _)⟩, fun k hk => absurd hk (Nat.not_lt_zero _)⟩, ⟨⟨by decide, rfl, rfl, rfl⟩, fun k hk => absurd hk (Nat.not_lt_zero _), fun _ _ => ⟨rfl, rfl⟩, fun _ _ _ => rfl, fun _ _ => ⟨⟨rfl, rfl, rfl, rfl⟩, Or.inl rfl, Or.inl rfl, Or.inl rfl, Or.inl rfl⟩⟩, ⟨⟨⟨rfl, rfl⟩, ⟨by decide, by decide⟩, by decide, by decide⟩, fun _ _ => ⟨⟨rfl, rfl, rfl, rfl⟩, ?_, ?_, ?_, ?_⟩, fun _ _ => ⟨rfl, by show ix 0 < 4; decide⟩, fun _ _ => rfl⟩⟩
  · show bd 0 999; unfold bd; decide
  · show bd 0 999; unfold bd; decide
  · show bd 0 999; unfold bd; decide
  · show bd 0 999; unfold bd; decide
abbrev WW (ax am af ap ab ar a : Nat → Nat) (C : Nat → ClassId) (M : Nat → Nat → Int32) (F : Nat → Nat → Int64) (fm : Int32) (Pt : Nat → Nat → Int64) (pi : Nat → Int32) (Bk Rt Z : Nat → Nat → Int32) (Y : Nat → Nat → Int64) : va_W := wX ax am af ap ab ar ++ (wM am C M ++ (wF af C F fm ++ (wP ap C Pt pi ++ (wB ab C Bk ++ (wR ar C Rt ++ (wZ a C Z Y))))))
section XG
variable {p : Program} {l : Launch} {e : Env} {R : Room} {s : State} {m : MethodId} {args : Array Value} {below : List Frame} {meth : Method} {c : Code} {H : Heap} {locs : List Loc} {cells slots : Nat} {Q : State → Prop}
variable {cc : ByteArray} {pc : Nat} {ls : Array Slot} {rest st0 : List Value} {D : va_G} {A : Nat → Prop} {C : Nat → ClassId} {H0 : Heap} {av : Array Value}
variable {ax am af ap ab ar a : Nat → Nat} {M : Nat → Nat → Int32} {F : Nat → Nat → Int64} {fm : Int32} {Pt : Nat → Nat → Int64} {pi : Nat → Int32} {Bk Rt Z : Nat → Nat → Int32} {Y : Nat → Nat → Int64}
theorem xsld (hx : p.tables.exec = Jvm.exec) (hb : c.code = cc) {b L : Nat} {xs : Nat → Int32} (hX : va_X b L xs s H0) (hbl : b < H0.size) (hbA : ¬ A b) (hS : va_S A H0 H locs) {i : Int32} (k : Nat) (hi : i = nI k) (hk : k < L) (hL : L ≤ 2560) (hdg : decode cc pc = .ok (.iaload, 1))
    (kk : W p l e R s m args below meth c H locs cells slots Q (F0 m (pc + 1) ls (.int (xs k) :: rest))) : W p l e R s m args below meth c H locs cells slots Q (F0 m pc ls (.int i :: .ref b :: rest)) := by
  subst hi
  refine va_sld hx hb hX hbl hbA hS (vp_in_nI hk (by omega)) hdg ?_
  rw [nI_clamp (by omega)]
  exact kk
theorem sXM (hP : va_P D vwCl (WW ax am af ap ab ar a C M F fm Pt pi Bk Rt Z Y) H) : va_P D vwCl ((wX ax am af ap ab ar) ++ (wM am C M)) H := hP.sub [0, 1, 2, 3, 4, 5, 6, 7, 8] rfl
theorem tXM (hD : va_D A (WW ax am af ap ab ar a C M F fm Pt pi Bk Rt Z Y)) : va_D A ((wX ax am af ap ab ar) ++ (wM am C M)) := hD.sub [0, 1, 2, 3, 4, 5, 6, 7, 8] (by decide) rfl
theorem gXM_i {M' : Nat → Nat → Int32} {r : Int32} (hr : va_Run p l e R s m args below meth c H locs cells slots 0 0 (F0 m pc ls st0) rest (va_Qi (fun (x : Int32) (_ : Unit) => x = r) (Be D ((wX ax am af ap ab ar) ++ (wM am C M)) ((wX ax am af ap ab ar) ++ (wM am C M')) H.size) (va_A ((wX ax am af ap ab ar) ++ (wM am C M)) H.size) av) (va_A ((wX ax am af ap ab ar) ++ (wM am C M)) H.size)) (hP : va_P D vwCl (WW ax am af ap ab ar a C M F fm Pt pi Bk Rt Z Y) H) (hD : va_D A (WW ax am af ap ab ar a C M F fm Pt pi Bk Rt Z Y)) (hS : va_S A H0 H locs) (hA : ∀ q, H0.size ≤ q → A q)
    (kk : ∀ (H1 : Heap) (locs1 : List Loc), va_P D vwCl (WW ax am af ap ab ar a C M' F fm Pt pi Bk Rt Z Y) H1 → va_D A (WW ax am af ap ab ar a C M' F fm Pt pi Bk Rt Z Y) → va_S A H0 H1 locs1 → W p l e R s m args below meth c H1 locs1 cells slots Q (F0 m (pc + 3) ls (.int r :: rest))) : W p l e R s m args below meth c H locs cells slots Q (F0 m pc ls st0) :=
  xwi (wr := (wF af C F fm ++ (wP ap C Pt pi ++ (wB ab C Bk ++ (wR ar C Rt ++ (wZ a C Z Y)))))) hr hP hD hS hA [0, 1, 2, 3, 4, 5, 6, 7, 8] [9, 10, 11, 12, 13, 14, 15, 16, 17, 18, 19, 20, 21, 22, 23, 24, 25, 26, 27, 28, 29, 30, 31, 32, 33, 34, 35, 36, 37, 38, 39, 40, 41, 42, 43, 44, 45, 46, 47, 48, 49, 50, 51, 52, 53, 54, 55] rfl rfl (by decide) (by decide) (fun H1 locs1 hP hD hS => kk H1 locs1 (hP.sub [47, 48, 49, 50, 51, 52, 53, 54, 55, 0, 1, 2, 3, 4, 5, 6, 7, 8, 9, 10, 11, 12, 13, 14, 15, 16, 17, 18, 19, 20, 21, 22, 23, 24, 25, 26, 27, 28, 29, 30, 31, 32, 33, 34, 35, 36, 37, 38, 39, 40, 41, 42, 43, 44, 45, 46] rfl) (hD.sub [47, 48, 49, 50, 51, 52, 53, 54, 55, 0, 1, 2, 3, 4, 5, 6, 7, 8, 9, 10, 11, 12, 13, 14, 15, 16, 17, 18, 19, 20, 21, 22, 23, 24, 25, 26, 27, 28, 29, 30, 31, 32, 33, 34, 35, 36, 37, 38, 39, 40, 41, 42, 43, 44, 45, 46] (by decide) rfl) hS)
theorem sXFM (hP : va_P D vwCl (WW ax am af ap ab ar a C M F fm Pt pi Bk Rt Z Y) H) : va_P D vwCl ((wX ax am af ap ab ar) ++ (wF af C F fm) ++ (wM am C M)) H := hP.sub [0, 9, 10, 11, 12, 13, 14, 15, 16, 1, 2, 3, 4, 5, 6, 7, 8] rfl
theorem tXFM (hD : va_D A (WW ax am af ap ab ar a C M F fm Pt pi Bk Rt Z Y)) : va_D A ((wX ax am af ap ab ar) ++ (wF af C F fm) ++ (wM am C M)) := hD.sub [0, 9, 10, 11, 12, 13, 14, 15, 16, 1, 2, 3, 4, 5, 6, 7, 8] (by decide) rfl
theorem gXFM_i {F' : Nat → Nat → Int64} {fm' : Int32} {M' : Nat → Nat → Int32} {r : Int32} (hr : va_Run p l e R s m args below meth c H locs cells slots 0 0 (F0 m pc ls st0) rest (va_Qi (fun (x : Int32) (_ : Unit) => x = r) (Be D ((wX ax am af ap ab ar) ++ (wF af C F fm) ++ (wM am C M)) ((wX ax am af ap ab ar) ++ (wF af C F' fm') ++ (wM am C M')) H.size) (va_A ((wX ax am af ap ab ar) ++ (wF af C F fm) ++ (wM am C M)) H.size) av) (va_A ((wX ax am af ap ab ar) ++ (wF af C F fm) ++ (wM am C M)) H.size)) (hP : va_P D vwCl (WW ax am af ap ab ar a C M F fm Pt pi Bk Rt Z Y) H) (hD : va_D A (WW ax am af ap ab ar a C M F fm Pt pi Bk Rt Z Y)) (hS : va_S A H0 H locs) (hA : ∀ q, H0.size ≤ q → A q)
    (kk : ∀ (H1 : Heap) (locs1 : List Loc), va_P D vwCl (WW ax am af ap ab ar a C M' F' fm' Pt pi Bk Rt Z Y) H1 → va_D A (WW ax am af ap ab ar a C M' F' fm' Pt pi Bk Rt Z Y) → va_S A H0 H1 locs1 → W p l e R s m args below meth c H1 locs1 cells slots Q (F0 m (pc + 3) ls (.int r :: rest))) : W p l e R s m args below meth c H locs cells slots Q (F0 m pc ls st0) :=
  xwi (wr := (wP ap C Pt pi ++ (wB ab C Bk ++ (wR ar C Rt ++ (wZ a C Z Y))))) hr hP hD hS hA [0, 9, 10, 11, 12, 13, 14, 15, 16, 1, 2, 3, 4, 5, 6, 7, 8] [17, 18, 19, 20, 21, 22, 23, 24, 25, 26, 27, 28, 29, 30, 31, 32, 33, 34, 35, 36, 37, 38, 39, 40, 41, 42, 43, 44, 45, 46, 47, 48, 49, 50, 51, 52, 53, 54, 55] rfl rfl (by decide) (by decide) (fun H1 locs1 hP hD hS => kk H1 locs1 (hP.sub [39, 48, 49, 50, 51, 52, 53, 54, 55, 40, 41, 42, 43, 44, 45, 46, 47, 0, 1, 2, 3, 4, 5, 6, 7, 8, 9, 10, 11, 12, 13, 14, 15, 16, 17, 18, 19, 20, 21, 22, 23, 24, 25, 26, 27, 28, 29, 30, 31, 32, 33, 34, 35, 36, 37, 38] rfl) (hD.sub [39, 48, 49, 50, 51, 52, 53, 54, 55, 40, 41, 42, 43, 44, 45, 46, 47, 0, 1, 2, 3, 4, 5, 6, 7, 8, 9, 10, 11, 12, 13, 14, 15, 16, 17, 18, 19, 20, 21, 22, 23, 24, 25, 26, 27, 28, 29, 30, 31, 32, 33, 34, 35, 36, 37, 38] (by decide) rfl) hS)
theorem gXFM_l {F' : Nat → Nat → Int64} {fm' : Int32} {M' : Nat → Nat → Int32} {r : Int64} (hr : va_Run p l e R s m args below meth c H locs cells slots 0 0 (F0 m pc ls st0) rest (va_Ql (fun (x : Int64) (_ : Unit) => x = r) (Be D ((wX ax am af ap ab ar) ++ (wF af C F fm) ++ (wM am C M)) ((wX ax am af ap ab ar) ++ (wF af C F' fm') ++ (wM am C M')) H.size) (va_A ((wX ax am af ap ab ar) ++ (wF af C F fm) ++ (wM am C M)) H.size) av) (va_A ((wX ax am af ap ab ar) ++ (wF af C F fm) ++ (wM am C M)) H.size)) (hP : va_P D vwCl (WW ax am af ap ab ar a C M F fm Pt pi Bk Rt Z Y) H) (hD : va_D A (WW ax am af ap ab ar a C M F fm Pt pi Bk Rt Z Y)) (hS : va_S A H0 H locs) (hA : ∀ q, H0.size ≤ q → A q)
    (kk : ∀ (H1 : Heap) (locs1 : List Loc), va_P D vwCl (WW ax am af ap ab ar a C M' F' fm' Pt pi Bk Rt Z Y) H1 → va_D A (WW ax am af ap ab ar a C M' F' fm' Pt pi Bk Rt Z Y) → va_S A H0 H1 locs1 → W p l e R s m args below meth c H1 locs1 cells slots Q (F0 m (pc + 3) ls (.long r :: rest))) : W p l e R s m args below meth c H locs cells slots Q (F0 m pc ls st0) :=
  xwl (wr := (wP ap C Pt pi ++ (wB ab C Bk ++ (wR ar C Rt ++ (wZ a C Z Y))))) hr hP hD hS hA [0, 9, 10, 11, 12, 13, 14, 15, 16, 1, 2, 3, 4, 5, 6, 7, 8] [17, 18, 19, 20, 21, 22, 23, 24, 25, 26, 27, 28, 29, 30, 31, 32, 33, 34, 35, 36, 37, 38, 39, 40, 41, 42, 43, 44, 45, 46, 47, 48, 49, 50, 51, 52, 53, 54, 55] rfl rfl (by decide) (by decide) (fun H1 locs1 hP hD hS => kk H1 locs1 (hP.sub [39, 48, 49, 50, 51, 52, 53, 54, 55, 40, 41, 42, 43, 44, 45, 46, 47, 0, 1, 2, 3, 4, 5, 6, 7, 8, 9, 10, 11, 12, 13, 14, 15, 16, 17, 18, 19, 20, 21, 22, 23, 24, 25, 26, 27, 28, 29, 30, 31, 32, 33, 34, 35, 36, 37, 38] rfl) (hD.sub [39, 48, 49, 50, 51, 52, 53, 54, 55, 40, 41, 42, 43, 44, 45, 46, 47, 0, 1, 2, 3, 4, 5, 6, 7, 8, 9, 10, 11, 12, 13, 14, 15, 16, 17, 18, 19, 20, 21, 22, 23, 24, 25, 26, 27, 28, 29, 30, 31, 32, 33, 34, 35, 36, 37, 38] (by decide) rfl) hS)
theorem sXPM (hP : va_P D vwCl (WW ax am af ap ab ar a C M F fm Pt pi Bk Rt Z Y) H) : va_P D vwCl ((wX ax am af ap ab ar) ++ (wP ap C Pt pi) ++ (wM am C M)) H := hP.sub [0, 17, 18, 1, 2, 3, 4, 5, 6, 7, 8] rfl
theorem tXPM (hD : va_D A (WW ax am af ap ab ar a C M F fm Pt pi Bk Rt Z Y)) : va_D A ((wX ax am af ap ab ar) ++ (wP ap C Pt pi) ++ (wM am C M)) := hD.sub [0, 17, 18, 1, 2, 3, 4, 5, 6, 7, 8] (by decide) rfl
theorem gXPM_i {Pt' : Nat → Nat → Int64} {pi' : Nat → Int32} {r : Int32} (hr : va_Run p l e R s m args below meth c H locs cells slots 0 0 (F0 m pc ls st0) rest (va_Qi (fun (x : Int32) (_ : Unit) => x = r) (Be D ((wX ax am af ap ab ar) ++ (wP ap C Pt pi) ++ (wM am C M)) ((wX ax am af ap ab ar) ++ (wP ap C Pt' pi') ++ (wM am C M)) H.size) (va_A ((wX ax am af ap ab ar) ++ (wP ap C Pt pi) ++ (wM am C M)) H.size) av) (va_A ((wX ax am af ap ab ar) ++ (wP ap C Pt pi) ++ (wM am C M)) H.size)) (hP : va_P D vwCl (WW ax am af ap ab ar a C M F fm Pt pi Bk Rt Z Y) H) (hD : va_D A (WW ax am af ap ab ar a C M F fm Pt pi Bk Rt Z Y)) (hS : va_S A H0 H locs) (hA : ∀ q, H0.size ≤ q → A q)
    (kk : ∀ (H1 : Heap) (locs1 : List Loc), va_P D vwCl (WW ax am af ap ab ar a C M F fm Pt' pi' Bk Rt Z Y) H1 → va_D A (WW ax am af ap ab ar a C M F fm Pt' pi' Bk Rt Z Y) → va_S A H0 H1 locs1 → W p l e R s m args below meth c H1 locs1 cells slots Q (F0 m (pc + 3) ls (.int r :: rest))) : W p l e R s m args below meth c H locs cells slots Q (F0 m pc ls st0) :=
  xwi (wr := (wF af C F fm ++ (wB ab C Bk ++ (wR ar C Rt ++ (wZ a C Z Y))))) hr hP hD hS hA [0, 17, 18, 1, 2, 3, 4, 5, 6, 7, 8] [9, 10, 11, 12, 13, 14, 15, 16, 19, 20, 21, 22, 23, 24, 25, 26, 27, 28, 29, 30, 31, 32, 33, 34, 35, 36, 37, 38, 39, 40, 41, 42, 43, 44, 45, 46, 47, 48, 49, 50, 51, 52, 53, 54, 55] rfl rfl (by decide) (by decide) (fun H1 locs1 hP hD hS => kk H1 locs1 (hP.sub [45, 48, 49, 50, 51, 52, 53, 54, 55, 0, 1, 2, 3, 4, 5, 6, 7, 46, 47, 8, 9, 10, 11, 12, 13, 14, 15, 16, 17, 18, 19, 20, 21, 22, 23, 24, 25, 26, 27, 28, 29, 30, 31, 32, 33, 34, 35, 36, 37, 38, 39, 40, 41, 42, 43, 44] rfl) (hD.sub [45, 48, 49, 50, 51, 52, 53, 54, 55, 0, 1, 2, 3, 4, 5, 6, 7, 46, 47, 8, 9, 10, 11, 12, 13, 14, 15, 16, 17, 18, 19, 20, 21, 22, 23, 24, 25, 26, 27, 28, 29, 30, 31, 32, 33, 34, 35, 36, 37, 38, 39, 40, 41, 42, 43, 44] (by decide) rfl) hS)
theorem gXPM_l {Pt' : Nat → Nat → Int64} {pi' : Nat → Int32} {r : Int64} (hr : va_Run p l e R s m args below meth c H locs cells slots 0 0 (F0 m pc ls st0) rest (va_Ql (fun (x : Int64) (_ : Unit) => x = r) (Be D ((wX ax am af ap ab ar) ++ (wP ap C Pt pi) ++ (wM am C M)) ((wX ax am af ap ab ar) ++ (wP ap C Pt' pi') ++ (wM am C M)) H.size) (va_A ((wX ax am af ap ab ar) ++ (wP ap C Pt pi) ++ (wM am C M)) H.size) av) (va_A ((wX ax am af ap ab ar) ++ (wP ap C Pt pi) ++ (wM am C M)) H.size)) (hP : va_P D vwCl (WW ax am af ap ab ar a C M F fm Pt pi Bk Rt Z Y) H) (hD : va_D A (WW ax am af ap ab ar a C M F fm Pt pi Bk Rt Z Y)) (hS : va_S A H0 H locs) (hA : ∀ q, H0.size ≤ q → A q)
    (kk : ∀ (H1 : Heap) (locs1 : List Loc), va_P D vwCl (WW ax am af ap ab ar a C M F fm Pt' pi' Bk Rt Z Y) H1 → va_D A (WW ax am af ap ab ar a C M F fm Pt' pi' Bk Rt Z Y) → va_S A H0 H1 locs1 → W p l e R s m args below meth c H1 locs1 cells slots Q (F0 m (pc + 3) ls (.long r :: rest))) : W p l e R s m args below meth c H locs cells slots Q (F0 m pc ls st0) :=
  xwl (wr := (wF af C F fm ++ (wB ab C Bk ++ (wR ar C Rt ++ (wZ a C Z Y))))) hr hP hD hS hA [0, 17, 18, 1, 2, 3, 4, 5, 6, 7, 8] [9, 10, 11, 12, 13, 14, 15, 16, 19, 20, 21, 22, 23, 24, 25, 26, 27, 28, 29, 30, 31, 32, 33, 34, 35, 36, 37, 38, 39, 40, 41, 42, 43, 44, 45, 46, 47, 48, 49, 50, 51, 52, 53, 54, 55] rfl rfl (by decide) (by decide) (fun H1 locs1 hP hD hS => kk H1 locs1 (hP.sub [45, 48, 49, 50, 51, 52, 53, 54, 55, 0, 1, 2, 3, 4, 5, 6, 7, 46, 47, 8, 9, 10, 11, 12, 13, 14, 15, 16, 17, 18, 19, 20, 21, 22, 23, 24, 25, 26, 27, 28, 29, 30, 31, 32, 33, 34, 35, 36, 37, 38, 39, 40, 41, 42, 43, 44] rfl) (hD.sub [45, 48, 49, 50, 51, 52, 53, 54, 55, 0, 1, 2, 3, 4, 5, 6, 7, 46, 47, 8, 9, 10, 11, 12, 13, 14, 15, 16, 17, 18, 19, 20, 21, 22, 23, 24, 25, 26, 27, 28, 29, 30, 31, 32, 33, 34, 35, 36, 37, 38, 39, 40, 41, 42, 43, 44] (by decide) rfl) hS)
theorem sXB (hP : va_P D vwCl (WW ax am af ap ab ar a C M F fm Pt pi Bk Rt Z Y) H) : va_P D vwCl ((wX ax am af ap ab ar) ++ (wB ab C Bk)) H := hP.sub [0, 19, 20, 21, 22, 23, 24, 25, 26, 27, 28] rfl
theorem tXB (hD : va_D A (WW ax am af ap ab ar a C M F fm Pt pi Bk Rt Z Y)) : va_D A ((wX ax am af ap ab ar) ++ (wB ab C Bk)) := hD.sub [0, 19, 20, 21, 22, 23, 24, 25, 26, 27, 28] (by decide) rfl
theorem gXB_i {Bk' : Nat → Nat → Int32} {r : Int32} (hr : va_Run p l e R s m args below meth c H locs cells slots 0 0 (F0 m pc ls st0) rest (va_Qi (fun (x : Int32) (_ : Unit) => x = r) (Be D ((wX ax am af ap ab ar) ++ (wB ab C Bk)) ((wX ax am af ap ab ar) ++ (wB ab C Bk')) H.size) (va_A ((wX ax am af ap ab ar) ++ (wB ab C Bk)) H.size) av) (va_A ((wX ax am af ap ab ar) ++ (wB ab C Bk)) H.size)) (hP : va_P D vwCl (WW ax am af ap ab ar a C M F fm Pt pi Bk Rt Z Y) H) (hD : va_D A (WW ax am af ap ab ar a C M F fm Pt pi Bk Rt Z Y)) (hS : va_S A H0 H locs) (hA : ∀ q, H0.size ≤ q → A q)
    (kk : ∀ (H1 : Heap) (locs1 : List Loc), va_P D vwCl (WW ax am af ap ab ar a C M F fm Pt pi Bk' Rt Z Y) H1 → va_D A (WW ax am af ap ab ar a C M F fm Pt pi Bk' Rt Z Y) → va_S A H0 H1 locs1 → W p l e R s m args below meth c H1 locs1 cells slots Q (F0 m (pc + 3) ls (.int r :: rest))) : W p l e R s m args below meth c H locs cells slots Q (F0 m pc ls st0) :=
  xwi (wr := (wM am C M ++ (wF af C F fm ++ (wP ap C Pt pi ++ (wR ar C Rt ++ (wZ a C Z Y)))))) hr hP hD hS hA [0, 19, 20, 21, 22, 23, 24, 25, 26, 27, 28] [1, 2, 3, 4, 5, 6, 7, 8, 9, 10, 11, 12, 13, 14, 15, 16, 17, 18, 29, 30, 31, 32, 33, 34, 35, 36, 37, 38, 39, 40, 41, 42, 43, 44, 45, 46, 47, 48, 49, 50, 51, 52, 53, 54, 55] rfl rfl (by decide) (by decide) (fun H1 locs1 hP hD hS => kk H1 locs1 (hP.sub [45, 0, 1, 2, 3, 4, 5, 6, 7, 8, 9, 10, 11, 12, 13, 14, 15, 16, 17, 46, 47, 48, 49, 50, 51, 52, 53, 54, 55, 18, 19, 20, 21, 22, 23, 24, 25, 26, 27, 28, 29, 30, 31, 32, 33, 34, 35, 36, 37, 38, 39, 40, 41, 42, 43, 44] rfl) (hD.sub [45, 0, 1, 2, 3, 4, 5, 6, 7, 8, 9, 10, 11, 12, 13, 14, 15, 16, 17, 46, 47, 48, 49, 50, 51, 52, 53, 54, 55, 18, 19, 20, 21, 22, 23, 24, 25, 26, 27, 28, 29, 30, 31, 32, 33, 34, 35, 36, 37, 38, 39, 40, 41, 42, 43, 44] (by decide) rfl) hS)
theorem sXR (hP : va_P D vwCl (WW ax am af ap ab ar a C M F fm Pt pi Bk Rt Z Y) H) : va_P D vwCl ((wX ax am af ap ab ar) ++ (wR ar C Rt)) H := hP.sub [0, 29, 30, 31, 32, 33, 34, 35, 36, 37] rfl
theorem tXR (hD : va_D A (WW ax am af ap ab ar a C M F fm Pt pi Bk Rt Z Y)) : va_D A ((wX ax am af ap ab ar) ++ (wR ar C Rt)) := hD.sub [0, 29, 30, 31, 32, 33, 34, 35, 36, 37] (by decide) rfl
theorem gXR_i {Rt' : Nat → Nat → Int32} {r : Int32} (hr : va_Run p l e R s m args below meth c H locs cells slots 0 0 (F0 m pc ls st0) rest (va_Qi (fun (x : Int32) (_ : Unit) => x = r) (Be D ((wX ax am af ap ab ar) ++ (wR ar C Rt)) ((wX ax am af ap ab ar) ++ (wR ar C Rt')) H.size) (va_A ((wX ax am af ap ab ar) ++ (wR ar C Rt)) H.size) av) (va_A ((wX ax am af ap ab ar) ++ (wR ar C Rt)) H.size)) (hP : va_P D vwCl (WW ax am af ap ab ar a C M F fm Pt pi Bk Rt Z Y) H) (hD : va_D A (WW ax am af ap ab ar a C M F fm Pt pi Bk Rt Z Y)) (hS : va_S A H0 H locs) (hA : ∀ q, H0.size ≤ q → A q)
    (kk : ∀ (H1 : Heap) (locs1 : List Loc), va_P D vwCl (WW ax am af ap ab ar a C M F fm Pt pi Bk Rt' Z Y) H1 → va_D A (WW ax am af ap ab ar a C M F fm Pt pi Bk Rt' Z Y) → va_S A H0 H1 locs1 → W p l e R s m args below meth c H1 locs1 cells slots Q (F0 m (pc + 3) ls (.int r :: rest))) : W p l e R s m args below meth c H locs cells slots Q (F0 m pc ls st0) :=
  xwi (wr := (wM am C M ++ (wF af C F fm ++ (wP ap C Pt pi ++ (wB ab C Bk ++ (wZ a C Z Y)))))) hr hP hD hS hA [0, 29, 30, 31, 32, 33, 34, 35, 36, 37] [1, 2, 3, 4, 5, 6, 7, 8, 9, 10, 11, 12, 13, 14, 15, 16, 17, 18, 19, 20, 21, 22, 23, 24, 25, 26, 27, 28, 38, 39, 40, 41, 42, 43, 44, 45, 46, 47, 48, 49, 50, 51, 52, 53, 54, 55] rfl rfl (by decide) (by decide) (fun H1 locs1 hP hD hS => kk H1 locs1 (hP.sub [46, 0, 1, 2, 3, 4, 5, 6, 7, 8, 9, 10, 11, 12, 13, 14, 15, 16, 17, 18, 19, 20, 21, 22, 23, 24, 25, 26, 27, 47, 48, 49, 50, 51, 52, 53, 54, 55, 28, 29, 30, 31, 32, 33, 34, 35, 36, 37, 38, 39, 40, 41, 42, 43, 44, 45] rfl) (hD.sub [46, 0, 1, 2, 3, 4, 5, 6, 7, 8, 9, 10, 11, 12, 13, 14, 15, 16, 17, 18, 19, 20, 21, 22, 23, 24, 25, 26, 27, 47, 48, 49, 50, 51, 52, 53, 54, 55, 28, 29, 30, 31, 32, 33, 34, 35, 36, 37, 38, 39, 40, 41, 42, 43, 44, 45] (by decide) rfl) hS)
theorem sXMB (hP : va_P D vwCl (WW ax am af ap ab ar a C M F fm Pt pi Bk Rt Z Y) H) : va_P D vwCl ((wX ax am af ap ab ar) ++ (wM am C M) ++ (wB ab C Bk)) H := hP.sub [0, 1, 2, 3, 4, 5, 6, 7, 8, 19, 20, 21, 22, 23, 24, 25, 26, 27, 28] rfl
theorem tXMB (hD : va_D A (WW ax am af ap ab ar a C M F fm Pt pi Bk Rt Z Y)) : va_D A ((wX ax am af ap ab ar) ++ (wM am C M) ++ (wB ab C Bk)) := hD.sub [0, 1, 2, 3, 4, 5, 6, 7, 8, 19, 20, 21, 22, 23, 24, 25, 26, 27, 28] (by decide) rfl
theorem sZ (hP : va_P D vwCl (WW ax am af ap ab ar a C M F fm Pt pi Bk Rt Z Y) H) : va_P D vwCl (wZ a C Z Y) H := hP.sub [38, 39, 40, 41, 42, 43, 44, 45, 46, 47, 48, 49, 50, 51, 52, 53, 54, 55] rfl
theorem tZ (hD : va_D A (WW ax am af ap ab ar a C M F fm Pt pi Bk Rt Z Y)) : va_D A (wZ a C Z Y) := hD.sub [38, 39, 40, 41, 42, 43, 44, 45, 46, 47, 48, 49, 50, 51, 52, 53, 54, 55] (by decide) rfl
theorem gZ_i {Z' : Nat → Nat → Int32} {Y' : Nat → Nat → Int64} {r : Int32} (hr : va_Run p l e R s m args below meth c H locs cells slots 0 0 (F0 m pc ls st0) rest (va_Qi (fun (x : Int32) (_ : Unit) => x = r) (Be D (wZ a C Z Y) (wZ a C Z' Y') H.size) (va_A (wZ a C Z Y) H.size) av) (va_A (wZ a C Z Y) H.size)) (hP : va_P D vwCl (WW ax am af ap ab ar a C M F fm Pt pi Bk Rt Z Y) H) (hD : va_D A (WW ax am af ap ab ar a C M F fm Pt pi Bk Rt Z Y)) (hS : va_S A H0 H locs) (hA : ∀ q, H0.size ≤ q → A q)
    (kk : ∀ (H1 : Heap) (locs1 : List Loc), va_P D vwCl (WW ax am af ap ab ar a C M F fm Pt pi Bk Rt Z' Y') H1 → va_D A (WW ax am af ap ab ar a C M F fm Pt pi Bk Rt Z' Y') → va_S A H0 H1 locs1 → W p l e R s m args below meth c H1 locs1 cells slots Q (F0 m (pc + 3) ls (.int r :: rest))) : W p l e R s m args below meth c H locs cells slots Q (F0 m pc ls st0) :=
  xwi (wr := (wX ax am af ap ab ar ++ (wM am C M ++ (wF af C F fm ++ (wP ap C Pt pi ++ (wB ab C Bk ++ (wR ar C Rt))))))) hr hP hD hS hA [38, 39, 40, 41, 42, 43, 44, 45, 46, 47, 48, 49, 50, 51, 52, 53, 54, 55] [0, 1, 2, 3, 4, 5, 6, 7, 8, 9, 10, 11, 12, 13, 14, 15, 16, 17, 18, 19, 20, 21, 22, 23, 24, 25, 26, 27, 28, 29, 30, 31, 32, 33, 34, 35, 36, 37] rfl rfl (by decide) (by decide) (fun H1 locs1 hP hD hS => kk H1 locs1 (hP.sub [0, 1, 2, 3, 4, 5, 6, 7, 8, 9, 10, 11, 12, 13, 14, 15, 16, 17, 18, 19, 20, 21, 22, 23, 24, 25, 26, 27, 28, 29, 30, 31, 32, 33, 34, 35, 36, 37, 38, 39, 40, 41, 42, 43, 44, 45, 46, 47, 48, 49, 50, 51, 52, 53, 54, 55] rfl) (hD.sub [0, 1, 2, 3, 4, 5, 6, 7, 8, 9, 10, 11, 12, 13, 14, 15, 16, 17, 18, 19, 20, 21, 22, 23, 24, 25, 26, 27, 28, 29, 30, 31, 32, 33, 34, 35, 36, 37, 38, 39, 40, 41, 42, 43, 44, 45, 46, 47, 48, 49, 50, 51, 52, 53, 54, 55] (by decide) rfl) hS)
theorem gZ_l {Z' : Nat → Nat → Int32} {Y' : Nat → Nat → Int64} {r : Int64} (hr : va_Run p l e R s m args below meth c H locs cells slots 0 0 (F0 m pc ls st0) rest (va_Ql (fun (x : Int64) (_ : Unit) => x = r) (Be D (wZ a C Z Y) (wZ a C Z' Y') H.size) (va_A (wZ a C Z Y) H.size) av) (va_A (wZ a C Z Y) H.size)) (hP : va_P D vwCl (WW ax am af ap ab ar a C M F fm Pt pi Bk Rt Z Y) H) (hD : va_D A (WW ax am af ap ab ar a C M F fm Pt pi Bk Rt Z Y)) (hS : va_S A H0 H locs) (hA : ∀ q, H0.size ≤ q → A q)
    (kk : ∀ (H1 : Heap) (locs1 : List Loc), va_P D vwCl (WW ax am af ap ab ar a C M F fm Pt pi Bk Rt Z' Y') H1 → va_D A (WW ax am af ap ab ar a C M F fm Pt pi Bk Rt Z' Y') → va_S A H0 H1 locs1 → W p l e R s m args below meth c H1 locs1 cells slots Q (F0 m (pc + 3) ls (.long r :: rest))) : W p l e R s m args below meth c H locs cells slots Q (F0 m pc ls st0) :=
  xwl (wr := (wX ax am af ap ab ar ++ (wM am C M ++ (wF af C F fm ++ (wP ap C Pt pi ++ (wB ab C Bk ++ (wR ar C Rt))))))) hr hP hD hS hA [38, 39, 40, 41, 42, 43, 44, 45, 46, 47, 48, 49, 50, 51, 52, 53, 54, 55] [0, 1, 2, 3, 4, 5, 6, 7, 8, 9, 10, 11, 12, 13, 14, 15, 16, 17, 18, 19, 20, 21, 22, 23, 24, 25, 26, 27, 28, 29, 30, 31, 32, 33, 34, 35, 36, 37] rfl rfl (by decide) (by decide) (fun H1 locs1 hP hD hS => kk H1 locs1 (hP.sub [0, 1, 2, 3, 4, 5, 6, 7, 8, 9, 10, 11, 12, 13, 14, 15, 16, 17, 18, 19, 20, 21, 22, 23, 24, 25, 26, 27, 28, 29, 30, 31, 32, 33, 34, 35, 36, 37, 38, 39, 40, 41, 42, 43, 44, 45, 46, 47, 48, 49, 50, 51, 52, 53, 54, 55] rfl) (hD.sub [0, 1, 2, 3, 4, 5, 6, 7, 8, 9, 10, 11, 12, 13, 14, 15, 16, 17, 18, 19, 20, 21, 22, 23, 24, 25, 26, 27, 28, 29, 30, 31, 32, 33, 34, 35, 36, 37, 38, 39, 40, 41, 42, 43, 44, 45, 46, 47, 48, 49, 50, 51, 52, 53, 54, 55] (by decide) rfl) hS)
end XG
/-- what stays through the law -/
def Lc (p : Program) (s : State) (m : MethodId) (c : Code) (args : Array Value) (D : va_G) (C : Nat → ClassId) (A : Nat → Prop) (b LL : Nat) (xs : Nat → Int32) : Prop :=
  p.tables.exec = Jvm.exec ∧ c.code = code ∧ c.maxLocals = 4 ∧ s.vm.findClass "FieldAfterFieldLaw" = some m.cls ∧ (∀ w ∈ WA, w.before args s = true) ∧ va_X b LL xs s s.heap ∧ b < s.heap.size ∧ ¬ A b ∧ (∀ q : Nat, s.heap.size ≤ q → A q) ∧ va_K D vwCl (tyv C) s ∧ nw s ∧ LL ≤ 2560
/-- the way on from 880 -/
def Lk (p : Program) (l : Launch) (e : Env) (s : State) (m : MethodId) (args : Array Value) (below : List Frame) (meth : Method) (c : Code) (Q : State → Prop) (D : va_G) (C : Nat → ClassId) (A : Nat → Prop) (ax am af ap ab ar a : Nat → Nat) (ls : Array Slot) : Prop :=
  ∀ (N lm om L : Nat) (M Bk Rt Z : Nat → Nat → Int32) (F Pt Y : Nat → Nat → Int64) (fm : Int32) (pi : Nat → Int32) (H1 : Heap) (locs1 : List Loc), SimA M Bk Rt Z N lm om L → va_P D vwCl (WW ax am af ap ab ar a C M F fm Pt pi Bk Rt Z Y) H1 → va_D A (WW ax am af ap ab ar a C M F fm Pt pi Bk Rt Z Y) → va_S A s.heap H1 locs1 → W p l e room_1 s m args below meth c H1 locs1 600000 7302250 Q (F0 m 880 ls [])
