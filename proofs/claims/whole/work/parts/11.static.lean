def absI (x : Int32) : Int32 := if 0 ≤ x then x else 0 - x
def absL (x : Int64) : Int64 := if 0 < x then x else -x
def maxL (x y : Int64) : Int64 := if y < x then x else y

def bitC (x : Int32) : Int32 := ((((((((x - (((x.toUInt32 >>> ((1 : Int32).toUInt32 &&& Int32.toUInt32 31)).toInt32) &&& 1431655765)) &&& 858993459) + ((((x - (((x.toUInt32 >>> ((1 : Int32).toUInt32 &&& Int32.toUInt32 31)).toInt32) &&& 1431655765)).toUInt32 >>> ((2 : Int32).toUInt32 &&& Int32.toUInt32 31)).toInt32) &&& 858993459)) + (((((x - (((x.toUInt32 >>> ((1 : Int32).toUInt32 &&& Int32.toUInt32 31)).toInt32) &&& 1431655765)) &&& 858993459) + ((((x - (((x.toUInt32 >>> ((1 : Int32).toUInt32 &&& Int32.toUInt32 31)).toInt32) &&& 1431655765)).toUInt32 >>> ((2 : Int32).toUInt32 &&& Int32.toUInt32 31)).toInt32) &&& 858993459)).toUInt32 >>> ((4 : Int32).toUInt32 &&& Int32.toUInt32 31)).toInt32)) &&& 252645135) + (((((((x - (((x.toUInt32 >>> ((1 : Int32).toUInt32 &&& Int32.toUInt32 31)).toInt32) &&& 1431655765)) &&& 858993459) + ((((x - (((x.toUInt32 >>> ((1 : Int32).toUInt32 &&& Int32.toUInt32 31)).toInt32) &&& 1431655765)).toUInt32 >>> ((2 : Int32).toUInt32 &&& Int32.toUInt32 31)).toInt32) &&& 858993459)) + (((((x - (((x.toUInt32 >>> ((1 : Int32).toUInt32 &&& Int32.toUInt32 31)).toInt32) &&& 1431655765)) &&& 858993459) + ((((x - (((x.toUInt32 >>> ((1 : Int32).toUInt32 &&& Int32.toUInt32 31)).toInt32) &&& 1431655765)).toUInt32 >>> ((2 : Int32).toUInt32 &&& Int32.toUInt32 31)).toInt32) &&& 858993459)).toUInt32 >>> ((4 : Int32).toUInt32 &&& Int32.toUInt32 31)).toInt32)) &&& 252645135).toUInt32 >>> ((8 : Int32).toUInt32 &&& Int32.toUInt32 31)).toInt32)) + ((((((((x - (((x.toUInt32 >>> ((1 : Int32).toUInt32 &&& Int32.toUInt32 31)).toInt32) &&& 1431655765)) &&& 858993459) + ((((x - (((x.toUInt32 >>> ((1 : Int32).toUInt32 &&& Int32.toUInt32 31)).toInt32) &&& 1431655765)).toUInt32 >>> ((2 : Int32).toUInt32 &&& Int32.toUInt32 31)).toInt32) &&& 858993459)) + (((((x - (((x.toUInt32 >>> ((1 : Int32).toUInt32 &&& Int32.toUInt32 31)).toInt32) &&& 1431655765)) &&& 858993459) + ((((x - (((x.toUInt32 >>> ((1 : Int32).toUInt32 &&& Int32.toUInt32 31)).toInt32) &&& 1431655765)).toUInt32 >>> ((2 : Int32).toUInt32 &&& Int32.toUInt32 31)).toInt32) &&& 858993459)).toUInt32 >>> ((4 : Int32).toUInt32 &&& Int32.toUInt32 31)).toInt32)) &&& 252645135) + (((((((x - (((x.toUInt32 >>> ((1 : Int32).toUInt32 &&& Int32.toUInt32 31)).toInt32) &&& 1431655765)) &&& 858993459) + ((((x - (((x.toUInt32 >>> ((1 : Int32).toUInt32 &&& Int32.toUInt32 31)).toInt32) &&& 1431655765)).toUInt32 >>> ((2 : Int32).toUInt32 &&& Int32.toUInt32 31)).toInt32) &&& 858993459)) + (((((x - (((x.toUInt32 >>> ((1 : Int32).toUInt32 &&& Int32.toUInt32 31)).toInt32) &&& 1431655765)) &&& 858993459) + ((((x - (((x.toUInt32 >>> ((1 : Int32).toUInt32 &&& Int32.toUInt32 31)).toInt32) &&& 1431655765)).toUInt32 >>> ((2 : Int32).toUInt32 &&& Int32.toUInt32 31)).toInt32) &&& 858993459)).toUInt32 >>> ((4 : Int32).toUInt32 &&& Int32.toUInt32 31)).toInt32)) &&& 252645135).toUInt32 >>> ((8 : Int32).toUInt32 &&& Int32.toUInt32 31)).toInt32)).toUInt32 >>> ((16 : Int32).toUInt32 &&& Int32.toUInt32 31)).toInt32)) &&& 63)
set_option maxHeartbeats 4000000 in
set_option maxRecDepth 100000 in
theorem kJ6_bitCount_0f7a4 (l : Launch) (x : Int32)  : Si l yJ6_bitCount_0f7a4 cJ6_bitCount_0f7a4 1 .int 0 [.int x] (bitC x) := by
  refine Met.ofW (cc := cJ6_bitCount_0f7a4) (maxL := 1) (ret := (some .int)) (by decide) rfl ?_
  intro p e s m args below meth c s₁ B hml hv
  obtain ⟨rfl, -⟩ := hv
  have hx := B.exec
  have hb := B.bytes
  have hr := B.returns
  have hts := atoms_spec (ws := wm yJ6_bitCount_0f7a4 cJ6_bitCount_0f7a4 1 (some .int)) B.pre
  have hown : s.vm.findClass RJ6 = some m.cls := findClass_of_methodNamed B.named
  have hlocks := B.notSynchronized
  have hW : ∀ w ∈ WA, w.before _ s = true := fun w h => hts w (List.mem_cons_of_mem _ h)
  have hl := lv_entry ([.int x]) (n := 1) (Nat.le_of_ble_eq_true rfl)
  rw [lg_entry_eq]
  generalize (lg_sl ([.int x]) ++ List.replicate (1 - (lg_sl ([.int x])).length) Slot.unset).toArray = ls at hl ⊢
  have hl : lv_has ls 1 [(0, .int x)] := hl
  refine lv_iload_n hx hb dJ6_bitCount_0f7a4_0 rfl (lv_at hl 0 rfl) ?_
  refine lv_iload_n hx hb dJ6_bitCount_0f7a4_1 rfl (lv_at hl 0 rfl) ?_
  refine lv_iconst (v := 1) hx hb dJ6_bitCount_0f7a4_2 (by decide) ?_
  refine lv_iushr hx hb dJ6_bitCount_0f7a4_3 rfl ?_
  refine lv_ldcw hx hb hown (hW _ (wa tw302 rfl)) dJ6_bitCount_0f7a4_4 ?_
  refine lv_iand hx hb dJ6_bitCount_0f7a4_7 ?_
  refine lv_isub hx hb dJ6_bitCount_0f7a4_8 ?_
  refine lv_istore_n (lv' := [(0, .int (x - (((x.toUInt32 >>> ((1 : Int32).toUInt32 &&& Int32.toUInt32 31)).toInt32) &&& 1431655765)))]) hx hb dJ6_bitCount_0f7a4_9 rfl hl (by decide) rfl (fun ls hl => ?_)
  refine lv_iload_n hx hb dJ6_bitCount_0f7a4_10 rfl (lv_at hl 0 rfl) ?_
  refine lv_ldcw hx hb hown (hW _ (wa tw303 rfl)) dJ6_bitCount_0f7a4_11 ?_
  refine lv_iand hx hb dJ6_bitCount_0f7a4_14 ?_
  refine lv_iload_n hx hb dJ6_bitCount_0f7a4_15 rfl (lv_at hl 0 rfl) ?_
  refine lv_iconst (v := 2) hx hb dJ6_bitCount_0f7a4_16 (by decide) ?_
  refine lv_iushr hx hb dJ6_bitCount_0f7a4_17 rfl ?_
  refine lv_ldcw hx hb hown (hW _ (wa tw303 rfl)) dJ6_bitCount_0f7a4_18 ?_
  refine lv_iand hx hb dJ6_bitCount_0f7a4_21 ?_
  refine lv_iadd hx hb dJ6_bitCount_0f7a4_22 ?_
  refine lv_istore_n (lv' := [(0, .int (((x - (((x.toUInt32 >>> ((1 : Int32).toUInt32 &&& Int32.toUInt32 31)).toInt32) &&& 1431655765)) &&& 858993459) + ((((x - (((x.toUInt32 >>> ((1 : Int32).toUInt32 &&& Int32.toUInt32 31)).toInt32) &&& 1431655765)).toUInt32 >>> ((2 : Int32).toUInt32 &&& Int32.toUInt32 31)).toInt32) &&& 858993459)))]) hx hb dJ6_bitCount_0f7a4_23 rfl hl (by decide) rfl (fun ls hl => ?_)
  refine lv_iload_n hx hb dJ6_bitCount_0f7a4_24 rfl (lv_at hl 0 rfl) ?_
  refine lv_iload_n hx hb dJ6_bitCount_0f7a4_25 rfl (lv_at hl 0 rfl) ?_
  refine lv_iconst (v := 4) hx hb dJ6_bitCount_0f7a4_26 (by decide) ?_
  refine lv_iushr hx hb dJ6_bitCount_0f7a4_27 rfl ?_
  refine lv_iadd hx hb dJ6_bitCount_0f7a4_28 ?_
  refine lv_ldcw hx hb hown (hW _ (wa tw304 rfl)) dJ6_bitCount_0f7a4_29 ?_
  refine lv_iand hx hb dJ6_bitCount_0f7a4_32 ?_
  refine lv_istore_n (lv' := [(0, .int (((((x - (((x.toUInt32 >>> ((1 : Int32).toUInt32 &&& Int32.toUInt32 31)).toInt32) &&& 1431655765)) &&& 858993459) + ((((x - (((x.toUInt32 >>> ((1 : Int32).toUInt32 &&& Int32.toUInt32 31)).toInt32) &&& 1431655765)).toUInt32 >>> ((2 : Int32).toUInt32 &&& Int32.toUInt32 31)).toInt32) &&& 858993459)) + (((((x - (((x.toUInt32 >>> ((1 : Int32).toUInt32 &&& Int32.toUInt32 31)).toInt32) &&& 1431655765)) &&& 858993459) + ((((x - (((x.toUInt32 >>> ((1 : Int32).toUInt32 &&& Int32.toUInt32 31)).toInt32) &&& 1431655765)).toUInt32 >>> ((2 : Int32).toUInt32 &&& Int32.toUInt32 31)).toInt32) &&& 858993459)).toUInt32 >>> ((4 : Int32).toUInt32 &&& Int32.toUInt32 31)).toInt32)) &&& 252645135))]) hx hb dJ6_bitCount_0f7a4_33 rfl hl (by decide) rfl (fun ls hl => ?_)
  refine lv_iload_n hx hb dJ6_bitCount_0f7a4_34 rfl (lv_at hl 0 rfl) ?_
  refine lv_iload_n hx hb dJ6_bitCount_0f7a4_35 rfl (lv_at hl 0 rfl) ?_
  refine lv_bipush (v := 8) hx hb dJ6_bitCount_0f7a4_36 (by decide) ?_
  refine lv_iushr hx hb dJ6_bitCount_0f7a4_38 rfl ?_
  refine lv_iadd hx hb dJ6_bitCount_0f7a4_39 ?_
  refine lv_istore_n (lv' := [(0, .int ((((((x - (((x.toUInt32 >>> ((1 : Int32).toUInt32 &&& Int32.toUInt32 31)).toInt32) &&& 1431655765)) &&& 858993459) + ((((x - (((x.toUInt32 >>> ((1 : Int32).toUInt32 &&& Int32.toUInt32 31)).toInt32) &&& 1431655765)).toUInt32 >>> ((2 : Int32).toUInt32 &&& Int32.toUInt32 31)).toInt32) &&& 858993459)) + (((((x - (((x.toUInt32 >>> ((1 : Int32).toUInt32 &&& Int32.toUInt32 31)).toInt32) &&& 1431655765)) &&& 858993459) + ((((x - (((x.toUInt32 >>> ((1 : Int32).toUInt32 &&& Int32.toUInt32 31)).toInt32) &&& 1431655765)).toUInt32 >>> ((2 : Int32).toUInt32 &&& Int32.toUInt32 31)).toInt32) &&& 858993459)).toUInt32 >>> ((4 : Int32).toUInt32 &&& Int32.toUInt32 31)).toInt32)) &&& 252645135) + (((((((x - (((x.toUInt32 >>> ((1 : Int32).toUInt32 &&& Int32.toUInt32 31)).toInt32) &&& 1431655765)) &&& 858993459) + ((((x - (((x.toUInt32 >>> ((1 : Int32).toUInt32 &&& Int32.toUInt32 31)).toInt32) &&& 1431655765)).toUInt32 >>> ((2 : Int32).toUInt32 &&& Int32.toUInt32 31)).toInt32) &&& 858993459)) + (((((x - (((x.toUInt32 >>> ((1 : Int32).toUInt32 &&& Int32.toUInt32 31)).toInt32) &&& 1431655765)) &&& 858993459) + ((((x - (((x.toUInt32 >>> ((1 : Int32).toUInt32 &&& Int32.toUInt32 31)).toInt32) &&& 1431655765)).toUInt32 >>> ((2 : Int32).toUInt32 &&& Int32.toUInt32 31)).toInt32) &&& 858993459)).toUInt32 >>> ((4 : Int32).toUInt32 &&& Int32.toUInt32 31)).toInt32)) &&& 252645135).toUInt32 >>> ((8 : Int32).toUInt32 &&& Int32.toUInt32 31)).toInt32)))]) hx hb dJ6_bitCount_0f7a4_40 rfl hl (by decide) rfl (fun ls hl => ?_)
  refine lv_iload_n hx hb dJ6_bitCount_0f7a4_41 rfl (lv_at hl 0 rfl) ?_
  refine lv_iload_n hx hb dJ6_bitCount_0f7a4_42 rfl (lv_at hl 0 rfl) ?_
  refine lv_bipush (v := 16) hx hb dJ6_bitCount_0f7a4_43 (by decide) ?_
  refine lv_iushr hx hb dJ6_bitCount_0f7a4_45 rfl ?_
  refine lv_iadd hx hb dJ6_bitCount_0f7a4_46 ?_
  refine lv_istore_n (lv' := [(0, .int (((((((x - (((x.toUInt32 >>> ((1 : Int32).toUInt32 &&& Int32.toUInt32 31)).toInt32) &&& 1431655765)) &&& 858993459) + ((((x - (((x.toUInt32 >>> ((1 : Int32).toUInt32 &&& Int32.toUInt32 31)).toInt32) &&& 1431655765)).toUInt32 >>> ((2 : Int32).toUInt32 &&& Int32.toUInt32 31)).toInt32) &&& 858993459)) + (((((x - (((x.toUInt32 >>> ((1 : Int32).toUInt32 &&& Int32.toUInt32 31)).toInt32) &&& 1431655765)) &&& 858993459) + ((((x - (((x.toUInt32 >>> ((1 : Int32).toUInt32 &&& Int32.toUInt32 31)).toInt32) &&& 1431655765)).toUInt32 >>> ((2 : Int32).toUInt32 &&& Int32.toUInt32 31)).toInt32) &&& 858993459)).toUInt32 >>> ((4 : Int32).toUInt32 &&& Int32.toUInt32 31)).toInt32)) &&& 252645135) + (((((((x - (((x.toUInt32 >>> ((1 : Int32).toUInt32 &&& Int32.toUInt32 31)).toInt32) &&& 1431655765)) &&& 858993459) + ((((x - (((x.toUInt32 >>> ((1 : Int32).toUInt32 &&& Int32.toUInt32 31)).toInt32) &&& 1431655765)).toUInt32 >>> ((2 : Int32).toUInt32 &&& Int32.toUInt32 31)).toInt32) &&& 858993459)) + (((((x - (((x.toUInt32 >>> ((1 : Int32).toUInt32 &&& Int32.toUInt32 31)).toInt32) &&& 1431655765)) &&& 858993459) + ((((x - (((x.toUInt32 >>> ((1 : Int32).toUInt32 &&& Int32.toUInt32 31)).toInt32) &&& 1431655765)).toUInt32 >>> ((2 : Int32).toUInt32 &&& Int32.toUInt32 31)).toInt32) &&& 858993459)).toUInt32 >>> ((4 : Int32).toUInt32 &&& Int32.toUInt32 31)).toInt32)) &&& 252645135).toUInt32 >>> ((8 : Int32).toUInt32 &&& Int32.toUInt32 31)).toInt32)) + ((((((((x - (((x.toUInt32 >>> ((1 : Int32).toUInt32 &&& Int32.toUInt32 31)).toInt32) &&& 1431655765)) &&& 858993459) + ((((x - (((x.toUInt32 >>> ((1 : Int32).toUInt32 &&& Int32.toUInt32 31)).toInt32) &&& 1431655765)).toUInt32 >>> ((2 : Int32).toUInt32 &&& Int32.toUInt32 31)).toInt32) &&& 858993459)) + (((((x - (((x.toUInt32 >>> ((1 : Int32).toUInt32 &&& Int32.toUInt32 31)).toInt32) &&& 1431655765)) &&& 858993459) + ((((x - (((x.toUInt32 >>> ((1 : Int32).toUInt32 &&& Int32.toUInt32 31)).toInt32) &&& 1431655765)).toUInt32 >>> ((2 : Int32).toUInt32 &&& Int32.toUInt32 31)).toInt32) &&& 858993459)).toUInt32 >>> ((4 : Int32).toUInt32 &&& Int32.toUInt32 31)).toInt32)) &&& 252645135) + (((((((x - (((x.toUInt32 >>> ((1 : Int32).toUInt32 &&& Int32.toUInt32 31)).toInt32) &&& 1431655765)) &&& 858993459) + ((((x - (((x.toUInt32 >>> ((1 : Int32).toUInt32 &&& Int32.toUInt32 31)).toInt32) &&& 1431655765)).toUInt32 >>> ((2 : Int32).toUInt32 &&& Int32.toUInt32 31)).toInt32) &&& 858993459)) + (((((x - (((x.toUInt32 >>> ((1 : Int32).toUInt32 &&& Int32.toUInt32 31)).toInt32) &&& 1431655765)) &&& 858993459) + ((((x - (((x.toUInt32 >>> ((1 : Int32).toUInt32 &&& Int32.toUInt32 31)).toInt32) &&& 1431655765)).toUInt32 >>> ((2 : Int32).toUInt32 &&& Int32.toUInt32 31)).toInt32) &&& 858993459)).toUInt32 >>> ((4 : Int32).toUInt32 &&& Int32.toUInt32 31)).toInt32)) &&& 252645135).toUInt32 >>> ((8 : Int32).toUInt32 &&& Int32.toUInt32 31)).toInt32)).toUInt32 >>> ((16 : Int32).toUInt32 &&& Int32.toUInt32 31)).toInt32)))]) hx hb dJ6_bitCount_0f7a4_47 rfl hl (by decide) rfl (fun ls hl => ?_)
  refine lv_iload_n hx hb dJ6_bitCount_0f7a4_48 rfl (lv_at hl 0 rfl) ?_
  refine lv_bipush (v := 63) hx hb dJ6_bitCount_0f7a4_49 (by decide) ?_
  refine lv_iand hx hb dJ6_bitCount_0f7a4_51 ?_
  exact W.iret (v := (((((((x - (((x.toUInt32 >>> ((1 : Int32).toUInt32 &&& Int32.toUInt32 31)).toInt32) &&& 1431655765)) &&& 858993459) + ((((x - (((x.toUInt32 >>> ((1 : Int32).toUInt32 &&& Int32.toUInt32 31)).toInt32) &&& 1431655765)).toUInt32 >>> ((2 : Int32).toUInt32 &&& Int32.toUInt32 31)).toInt32) &&& 858993459)) + (((((x - (((x.toUInt32 >>> ((1 : Int32).toUInt32 &&& Int32.toUInt32 31)).toInt32) &&& 1431655765)) &&& 858993459) + ((((x - (((x.toUInt32 >>> ((1 : Int32).toUInt32 &&& Int32.toUInt32 31)).toInt32) &&& 1431655765)).toUInt32 >>> ((2 : Int32).toUInt32 &&& Int32.toUInt32 31)).toInt32) &&& 858993459)).toUInt32 >>> ((4 : Int32).toUInt32 &&& Int32.toUInt32 31)).toInt32)) &&& 252645135) + (((((((x - (((x.toUInt32 >>> ((1 : Int32).toUInt32 &&& Int32.toUInt32 31)).toInt32) &&& 1431655765)) &&& 858993459) + ((((x - (((x.toUInt32 >>> ((1 : Int32).toUInt32 &&& Int32.toUInt32 31)).toInt32) &&& 1431655765)).toUInt32 >>> ((2 : Int32).toUInt32 &&& Int32.toUInt32 31)).toInt32) &&& 858993459)) + (((((x - (((x.toUInt32 >>> ((1 : Int32).toUInt32 &&& Int32.toUInt32 31)).toInt32) &&& 1431655765)) &&& 858993459) + ((((x - (((x.toUInt32 >>> ((1 : Int32).toUInt32 &&& Int32.toUInt32 31)).toInt32) &&& 1431655765)).toUInt32 >>> ((2 : Int32).toUInt32 &&& Int32.toUInt32 31)).toInt32) &&& 858993459)).toUInt32 >>> ((4 : Int32).toUInt32 &&& Int32.toUInt32 31)).toInt32)) &&& 252645135).toUInt32 >>> ((8 : Int32).toUInt32 &&& Int32.toUInt32 31)).toInt32)) + ((((((((x - (((x.toUInt32 >>> ((1 : Int32).toUInt32 &&& Int32.toUInt32 31)).toInt32) &&& 1431655765)) &&& 858993459) + ((((x - (((x.toUInt32 >>> ((1 : Int32).toUInt32 &&& Int32.toUInt32 31)).toInt32) &&& 1431655765)).toUInt32 >>> ((2 : Int32).toUInt32 &&& Int32.toUInt32 31)).toInt32) &&& 858993459)) + (((((x - (((x.toUInt32 >>> ((1 : Int32).toUInt32 &&& Int32.toUInt32 31)).toInt32) &&& 1431655765)) &&& 858993459) + ((((x - (((x.toUInt32 >>> ((1 : Int32).toUInt32 &&& Int32.toUInt32 31)).toInt32) &&& 1431655765)).toUInt32 >>> ((2 : Int32).toUInt32 &&& Int32.toUInt32 31)).toInt32) &&& 858993459)).toUInt32 >>> ((4 : Int32).toUInt32 &&& Int32.toUInt32 31)).toInt32)) &&& 252645135) + (((((((x - (((x.toUInt32 >>> ((1 : Int32).toUInt32 &&& Int32.toUInt32 31)).toInt32) &&& 1431655765)) &&& 858993459) + ((((x - (((x.toUInt32 >>> ((1 : Int32).toUInt32 &&& Int32.toUInt32 31)).toInt32) &&& 1431655765)).toUInt32 >>> ((2 : Int32).toUInt32 &&& Int32.toUInt32 31)).toInt32) &&& 858993459)) + (((((x - (((x.toUInt32 >>> ((1 : Int32).toUInt32 &&& Int32.toUInt32 31)).toInt32) &&& 1431655765)) &&& 858993459) + ((((x - (((x.toUInt32 >>> ((1 : Int32).toUInt32 &&& Int32.toUInt32 31)).toInt32) &&& 1431655765)).toUInt32 >>> ((2 : Int32).toUInt32 &&& Int32.toUInt32 31)).toInt32) &&& 858993459)).toUInt32 >>> ((4 : Int32).toUInt32 &&& Int32.toUInt32 31)).toInt32)) &&& 252645135).toUInt32 >>> ((8 : Int32).toUInt32 &&& Int32.toUInt32 31)).toInt32)).toUInt32 >>> ((16 : Int32).toUInt32 &&& Int32.toUInt32 31)).toInt32)) &&& 63) hx hb hr (fun t ht _ => ⟨_, rfl, (by simp only [bitC]), ht⟩) (fun q h => by cases h) dJ6_bitCount_0f7a4_52

def f6_outside (v lo hi : Int32) : Int32 := (if v < lo then (1) else (if v ≤ hi then (0) else (1)))
set_option maxHeartbeats 4000000 in
set_option maxRecDepth 100000 in
theorem kX6_outside (l : Launch) (v lo hi : Int32)  : Si l yX6_outside cX6_outside 3 .boolean 0 [.int v, .int lo, .int hi] (f6_outside v lo hi) := by
  refine Met.ofW (cc := cX6_outside) (maxL := 3) (ret := (some .boolean)) (by decide) rfl ?_
  intro p e s m args below meth c s₁ B hml hv
  obtain ⟨rfl, -⟩ := hv
  have hx := B.exec
  have hb := B.bytes
  have hr := B.returns
  have hts := atoms_spec (ws := wm yX6_outside cX6_outside 3 (some .boolean)) B.pre
  have hown : s.vm.findClass RX6 = some m.cls := findClass_of_methodNamed B.named
  have hlocks := B.notSynchronized
  have hW : ∀ w ∈ WA, w.before _ s = true := fun w h => hts w (List.mem_cons_of_mem _ h)
  have hl := lv_entry ([.int v, .int lo, .int hi]) (n := 3) (Nat.le_of_ble_eq_true rfl)
  rw [lg_entry_eq]
  generalize (lg_sl ([.int v, .int lo, .int hi]) ++ List.replicate (3 - (lg_sl ([.int v, .int lo, .int hi])).length) Slot.unset).toArray = ls at hl ⊢
  have hl : lv_has ls 3 [(0, .int v), (1, .int lo), (2, .int hi)] := hl
  refine lv_iload_n hx hb dX6_outside_0 rfl (lv_at hl 0 rfl) ?_
  refine lv_iload_n hx hb dX6_outside_1 rfl (lv_at hl 1 rfl) ?_
  refine lv_icmp_lt (tgt := 10) hx hb dX6_outside_2 (by decide) (fun c_1 => ?_) (fun c_1 => ?_)
  · refine lv_iconst (v := 1) hx hb dX6_outside_10 (by decide) ?_
    refine lv_goto (tgt := 15) hx hb dX6_outside_11 (by decide) ?_
    exact W.zret (v := 1) hx hb hr rfl (fun t ht _ => ⟨_, rfl, (by simp only [f6_outside, if_pos c_1]), ht⟩) (fun q h => by cases h) dX6_outside_15
  · refine lv_iload_n hx hb dX6_outside_5 rfl (lv_at hl 0 rfl) ?_
    refine lv_iload_n hx hb dX6_outside_6 rfl (lv_at hl 2 rfl) ?_
    refine lv_icmp_le (tgt := 14) hx hb dX6_outside_7 (by decide) (fun c_2 => ?_) (fun c_2 => ?_)
    · refine lv_iconst (v := 0) hx hb dX6_outside_14 (by decide) ?_
      exact W.zret (v := 0) hx hb hr rfl (fun t ht _ => ⟨_, rfl, (by simp only [f6_outside, if_neg c_1, if_pos c_2]), ht⟩) (fun q h => by cases h) dX6_outside_15
    · refine lv_iconst (v := 1) hx hb dX6_outside_10 (by decide) ?_
      refine lv_goto (tgt := 15) hx hb dX6_outside_11 (by decide) ?_
      exact W.zret (v := 1) hx hb hr rfl (fun t ht _ => ⟨_, rfl, (by simp only [f6_outside, if_neg c_1, if_neg c_2]), ht⟩) (fun q h => by cases h) dX6_outside_15

def f6_outsideFit (model way what : Int32) : Int32 := (if (f6_outside model 0 2) = 0 then (if (f6_outside way 0 1) = 0 then (if (f6_outside what 0 1) = 0 then (0) else (1)) else (1)) else (1))
set_option maxHeartbeats 4000000 in
set_option maxRecDepth 100000 in
theorem kX6_outsideFit (l : Launch) (model way what : Int32)  : Si l yX6_outsideFit cX6_outsideFit 3 .boolean 1 [.int model, .int way, .int what] (f6_outsideFit model way what) := by
  refine Met.ofW (cc := cX6_outsideFit) (maxL := 3) (ret := (some .boolean)) (by decide) rfl ?_
  intro p e s m args below meth c s₁ B hml hv
  obtain ⟨rfl, -⟩ := hv
  have hx := B.exec
  have hb := B.bytes
  have hr := B.returns
  have hts := atoms_spec (ws := wm yX6_outsideFit cX6_outsideFit 3 (some .boolean)) B.pre
  have hown : s.vm.findClass RX6 = some m.cls := findClass_of_methodNamed B.named
  have hlocks := B.notSynchronized
  have hW : ∀ w ∈ WA, w.before _ s = true := fun w h => hts w (List.mem_cons_of_mem _ h)
  have hl := lv_entry ([.int model, .int way, .int what]) (n := 3) (Nat.le_of_ble_eq_true rfl)
  rw [lg_entry_eq]
  generalize (lg_sl ([.int model, .int way, .int what]) ++ List.replicate (3 - (lg_sl ([.int model, .int way, .int what])).length) Slot.unset).toArray = ls at hl ⊢
  have hl : lv_has ls 3 [(0, .int model), (1, .int way), (2, .int what)] := hl
  refine lv_iload_n hx hb dX6_outsideFit_0 rfl (lv_at hl 0 rfl) ?_
  refine lv_iconst (v := 0) hx hb dX6_outsideFit_1 (by decide) ?_
  refine lv_iconst (v := 2) hx hb dX6_outsideFit_2 (by decide) ?_
  refine xri (r := f6_outside model 0 2) (rS (As := [.int model, .int 0, .int 2]) (n := 3) (rest := []) ⟨hx, hb, hml, hown, hW⟩ (kX6_outside l model 0 2) (wa tw259 rfl) (wa tw257 rfl) (wa tw258 rfl) (wa tw1 rfl) (by decide +kernel) ⟨Nat.le_of_ble_eq_true rfl, Nat.le_of_ble_eq_true rfl⟩ pS0 hl.1 rfl (Nat.le_of_ble_eq_true rfl) dX6_outsideFit_3 ⟨Nat.le_of_ble_eq_true rfl, Nat.le_of_ble_eq_true rfl⟩ rfl rfl rfl) ?_
  refine lv_if_ne (tgt := 27) hx hb dX6_outsideFit_6 (by decide) (fun c_1 => ?_) (fun c_1 => ?_)
  · refine lv_iconst (v := 1) hx hb dX6_outsideFit_27 (by decide) ?_
    refine lv_goto (tgt := 32) hx hb dX6_outsideFit_28 (by decide) ?_
    exact W.zret (v := 1) hx hb hr rfl (fun t ht _ => ⟨_, rfl, (by simp only [f6_outsideFit, if_neg c_1]), ht⟩) (fun q h => by cases h) dX6_outsideFit_32
  · refine lv_iload_n hx hb dX6_outsideFit_9 rfl (lv_at hl 1 rfl) ?_
    refine lv_iconst (v := 0) hx hb dX6_outsideFit_10 (by decide) ?_
    refine lv_iconst (v := 1) hx hb dX6_outsideFit_11 (by decide) ?_
    refine xri (r := f6_outside way 0 1) (rS (As := [.int way, .int 0, .int 1]) (n := 3) (rest := []) ⟨hx, hb, hml, hown, hW⟩ (kX6_outside l way 0 1) (wa tw259 rfl) (wa tw257 rfl) (wa tw258 rfl) (wa tw1 rfl) (by decide +kernel) ⟨Nat.le_of_ble_eq_true rfl, Nat.le_of_ble_eq_true rfl⟩ pS0 hl.1 rfl (Nat.le_of_ble_eq_true rfl) dX6_outsideFit_12 ⟨Nat.le_of_ble_eq_true rfl, Nat.le_of_ble_eq_true rfl⟩ rfl rfl rfl) ?_
    refine lv_if_ne (tgt := 27) hx hb dX6_outsideFit_15 (by decide) (fun c_2 => ?_) (fun c_2 => ?_)
    · refine lv_iconst (v := 1) hx hb dX6_outsideFit_27 (by decide) ?_
      refine lv_goto (tgt := 32) hx hb dX6_outsideFit_28 (by decide) ?_
      exact W.zret (v := 1) hx hb hr rfl (fun t ht _ => ⟨_, rfl, (by simp only [f6_outsideFit, if_pos c_1, if_neg c_2]), ht⟩) (fun q h => by cases h) dX6_outsideFit_32
    · refine lv_iload_n hx hb dX6_outsideFit_18 rfl (lv_at hl 2 rfl) ?_
      refine lv_iconst (v := 0) hx hb dX6_outsideFit_19 (by decide) ?_
      refine lv_iconst (v := 1) hx hb dX6_outsideFit_20 (by decide) ?_
      refine xri (r := f6_outside what 0 1) (rS (As := [.int what, .int 0, .int 1]) (n := 3) (rest := []) ⟨hx, hb, hml, hown, hW⟩ (kX6_outside l what 0 1) (wa tw259 rfl) (wa tw257 rfl) (wa tw258 rfl) (wa tw1 rfl) (by decide +kernel) ⟨Nat.le_of_ble_eq_true rfl, Nat.le_of_ble_eq_true rfl⟩ pS0 hl.1 rfl (Nat.le_of_ble_eq_true rfl) dX6_outsideFit_21 ⟨Nat.le_of_ble_eq_true rfl, Nat.le_of_ble_eq_true rfl⟩ rfl rfl rfl) ?_
      refine lv_if_eq (tgt := 31) hx hb dX6_outsideFit_24 (by decide) (fun c_3 => ?_) (fun c_3 => ?_)
      · refine lv_iconst (v := 0) hx hb dX6_outsideFit_31 (by decide) ?_
        exact W.zret (v := 0) hx hb hr rfl (fun t ht _ => ⟨_, rfl, (by simp only [f6_outsideFit, if_pos c_1, if_pos c_2, if_pos c_3]), ht⟩) (fun q h => by cases h) dX6_outsideFit_32
      · refine lv_iconst (v := 1) hx hb dX6_outsideFit_27 (by decide) ?_
        refine lv_goto (tgt := 32) hx hb dX6_outsideFit_28 (by decide) ?_
        exact W.zret (v := 1) hx hb hr rfl (fun t ht _ => ⟨_, rfl, (by simp only [f6_outsideFit, if_pos c_1, if_pos c_2, if_neg c_3]), ht⟩) (fun q h => by cases h) dX6_outsideFit_32

def f6_lastTerm (model : Int32) : Int32 := (if model = 0 then (0) else (2))
set_option maxHeartbeats 4000000 in
set_option maxRecDepth 100000 in
theorem kX6_lastTerm (l : Launch) (model : Int32)  : Si l yX6_lastTerm cX6_lastTerm 1 .int 0 [.int model] (f6_lastTerm model) := by
  refine Met.ofW (cc := cX6_lastTerm) (maxL := 1) (ret := (some .int)) (by decide) rfl ?_
  intro p e s m args below meth c s₁ B hml hv
  obtain ⟨rfl, -⟩ := hv
  have hx := B.exec
  have hb := B.bytes
  have hr := B.returns
  have hts := atoms_spec (ws := wm yX6_lastTerm cX6_lastTerm 1 (some .int)) B.pre
  have hown : s.vm.findClass RX6 = some m.cls := findClass_of_methodNamed B.named
  have hlocks := B.notSynchronized
  have hW : ∀ w ∈ WA, w.before _ s = true := fun w h => hts w (List.mem_cons_of_mem _ h)
  have hl := lv_entry ([.int model]) (n := 1) (Nat.le_of_ble_eq_true rfl)
  rw [lg_entry_eq]
  generalize (lg_sl ([.int model]) ++ List.replicate (1 - (lg_sl ([.int model])).length) Slot.unset).toArray = ls at hl ⊢
  have hl : lv_has ls 1 [(0, .int model)] := hl
  refine lv_iload_n hx hb dX6_lastTerm_0 rfl (lv_at hl 0 rfl) ?_
  refine lv_if_ne (tgt := 8) hx hb dX6_lastTerm_1 (by decide) (fun c_1 => ?_) (fun c_1 => ?_)
  · refine lv_iconst (v := 2) hx hb dX6_lastTerm_8 (by decide) ?_
    exact W.iret (v := 2) hx hb hr (fun t ht _ => ⟨_, rfl, (by simp only [f6_lastTerm, if_neg c_1]), ht⟩) (fun q h => by cases h) dX6_lastTerm_9
  · refine lv_iconst (v := 0) hx hb dX6_lastTerm_4 (by decide) ?_
    refine lv_goto (tgt := 9) hx hb dX6_lastTerm_5 (by decide) ?_
    exact W.iret (v := 0) hx hb hr (fun t ht _ => ⟨_, rfl, (by simp only [f6_lastTerm, if_pos c_1]), ht⟩) (fun q h => by cases h) dX6_lastTerm_9

def f6_isIn (set mm : Int32) : Int32 := (if ((set >>> (mm &&& 31)) &&& 1) = 0 then (0) else (1))
set_option maxHeartbeats 4000000 in
set_option maxRecDepth 100000 in
theorem kX6_isIn (l : Launch) (set mm : Int32)  : Si l yX6_isIn cX6_isIn 2 .boolean 0 [.int set, .int mm] (f6_isIn set mm) := by
  refine Met.ofW (cc := cX6_isIn) (maxL := 2) (ret := (some .boolean)) (by decide) rfl ?_
  intro p e s m args below meth c s₁ B hml hv
  obtain ⟨rfl, -⟩ := hv
  have hx := B.exec
  have hb := B.bytes
  have hr := B.returns
  have hts := atoms_spec (ws := wm yX6_isIn cX6_isIn 2 (some .boolean)) B.pre
  have hown : s.vm.findClass RX6 = some m.cls := findClass_of_methodNamed B.named
  have hlocks := B.notSynchronized
  have hW : ∀ w ∈ WA, w.before _ s = true := fun w h => hts w (List.mem_cons_of_mem _ h)
  have hl := lv_entry ([.int set, .int mm]) (n := 2) (Nat.le_of_ble_eq_true rfl)
  rw [lg_entry_eq]
  generalize (lg_sl ([.int set, .int mm]) ++ List.replicate (2 - (lg_sl ([.int set, .int mm])).length) Slot.unset).toArray = ls at hl ⊢
  have hl : lv_has ls 2 [(0, .int set), (1, .int mm)] := hl
  refine lv_iload_n hx hb dX6_isIn_0 rfl (lv_at hl 0 rfl) ?_
  refine lv_iload_n hx hb dX6_isIn_1 rfl (lv_at hl 1 rfl) ?_
  refine lv_ishr hx hb dX6_isIn_2 ?_
  refine lv_iconst (v := 1) hx hb dX6_isIn_3 (by decide) ?_
  refine lv_iand hx hb dX6_isIn_4 ?_
  refine lv_if_eq (tgt := 12) hx hb dX6_isIn_5 (by decide) (fun c_1 => ?_) (fun c_1 => ?_)
  · refine lv_iconst (v := 0) hx hb dX6_isIn_12 (by decide) ?_
    exact W.zret (v := 0) hx hb hr rfl (fun t ht _ => ⟨_, rfl, (by simp only [f6_isIn, if_pos c_1]), ht⟩) (fun q h => by cases h) dX6_isIn_13
  · refine lv_iconst (v := 1) hx hb dX6_isIn_8 (by decide) ?_
    refine lv_goto (tgt := 13) hx hb dX6_isIn_9 (by decide) ?_
    exact W.zret (v := 1) hx hb hr rfl (fun t ht _ => ⟨_, rfl, (by simp only [f6_isIn, if_neg c_1]), ht⟩) (fun q h => by cases h) dX6_isIn_13

def f7_in (v lo hi : Int64) : Int32 := (if v < lo then (0) else (if hi < v then (0) else (1)))
set_option maxHeartbeats 4000000 in
set_option maxRecDepth 100000 in
theorem kX7_in (l : Launch) (v lo hi : Int64)  : Si l yX7_in cX7_in 6 .boolean 0 [.long v, .long lo, .long hi] (f7_in v lo hi) := by
  refine Met.ofW (cc := cX7_in) (maxL := 6) (ret := (some .boolean)) (by decide) rfl ?_
  intro p e s m args below meth c s₁ B hml hv
  obtain ⟨rfl, -⟩ := hv
  have hx := B.exec
  have hb := B.bytes
  have hr := B.returns
  have hts := atoms_spec (ws := wm yX7_in cX7_in 6 (some .boolean)) B.pre
  have hown : s.vm.findClass RX7 = some m.cls := findClass_of_methodNamed B.named
  have hlocks := B.notSynchronized
  have hW : ∀ w ∈ WA, w.before _ s = true := fun w h => hts w (List.mem_cons_of_mem _ h)
  have hl := lv_entry ([.long v, .long lo, .long hi]) (n := 6) (Nat.le_of_ble_eq_true rfl)
  rw [lg_entry_eq]
  generalize (lg_sl ([.long v, .long lo, .long hi]) ++ List.replicate (6 - (lg_sl ([.long v, .long lo, .long hi])).length) Slot.unset).toArray = ls at hl ⊢
  have hl : lv_has ls 6 [(0, .long v), (2, .long lo), (4, .long hi)] := hl
  refine lv_lload_n hx hb dX7_in_0 rfl (lv_at hl 0 rfl) ?_
  refine lv_lload_n hx hb dX7_in_1 rfl (lv_at hl 1 rfl) ?_
  refine xlcmp_lt (tgt := 17) hx hb dX7_in_2 dX7_in_3 (by decide) (fun c_1 => ?_) (fun c_1 => ?_)
  · refine lv_iconst (v := 0) hx hb dX7_in_17 (by decide) ?_
    exact W.zret (v := 0) hx hb hr rfl (fun t ht _ => ⟨_, rfl, (by simp only [f7_in, if_pos c_1]), ht⟩) (fun q h => by cases h) dX7_in_18
  · refine lv_lload_n hx hb dX7_in_6 rfl (lv_at hl 0 rfl) ?_
    refine lv_lload hx hb dX7_in_7 (lv_at hl 2 rfl) ?_
    refine xlcmp_gt (tgt := 17) hx hb dX7_in_9 dX7_in_10 (by decide) (fun c_2 => ?_) (fun c_2 => ?_)
    · refine lv_iconst (v := 0) hx hb dX7_in_17 (by decide) ?_
      exact W.zret (v := 0) hx hb hr rfl (fun t ht _ => ⟨_, rfl, (by simp only [f7_in, if_neg c_1, if_pos c_2]), ht⟩) (fun q h => by cases h) dX7_in_18
    · refine lv_iconst (v := 1) hx hb dX7_in_13 (by decide) ?_
      refine lv_goto (tgt := 18) hx hb dX7_in_14 (by decide) ?_
      exact W.zret (v := 1) hx hb hr rfl (fun t ht _ => ⟨_, rfl, (by simp only [f7_in, if_neg c_1, if_neg c_2]), ht⟩) (fun q h => by cases h) dX7_in_18

theorem f7_in_z (v lo hi : Int64) : narrow .boolean (.int (f7_in v lo hi)) = .int (f7_in v lo hi) := by
  unfold f7_in
  split
  · rfl
  · split <;> rfl

def f7_isModel (model : Int32) : Int32 := (f7_in model.toInt64 0 2)
set_option maxHeartbeats 4000000 in
set_option maxRecDepth 100000 in
theorem kX7_isModel (l : Launch) (model : Int32)  : Si l yX7_isModel cX7_isModel 1 .boolean 1 [.int model] (f7_isModel model) := by
  refine Met.ofW (cc := cX7_isModel) (maxL := 1) (ret := (some .boolean)) (by decide) rfl ?_
  intro p e s m args below meth c s₁ B hml hv
  obtain ⟨rfl, -⟩ := hv
  have hx := B.exec
  have hb := B.bytes
  have hr := B.returns
  have hts := atoms_spec (ws := wm yX7_isModel cX7_isModel 1 (some .boolean)) B.pre
  have hown : s.vm.findClass RX7 = some m.cls := findClass_of_methodNamed B.named
  have hlocks := B.notSynchronized
  have hW : ∀ w ∈ WA, w.before _ s = true := fun w h => hts w (List.mem_cons_of_mem _ h)
  have hl := lv_entry ([.int model]) (n := 1) (Nat.le_of_ble_eq_true rfl)
  rw [lg_entry_eq]
  generalize (lg_sl ([.int model]) ++ List.replicate (1 - (lg_sl ([.int model])).length) Slot.unset).toArray = ls at hl ⊢
  have hl : lv_has ls 1 [(0, .int model)] := hl
  refine lv_iload_n hx hb dX7_isModel_0 rfl (lv_at hl 0 rfl) ?_
  refine lv_i2l (v := model.toInt64) hx hb dX7_isModel_1 rfl ?_
  refine lv_lconst (v := 0) hx hb dX7_isModel_2 (by decide) ?_
  refine lv_ldc2 hx hb hown (hW _ (wa tw679 rfl)) dX7_isModel_3 ?_
  refine xri (r := f7_in model.toInt64 0 2) (rS (As := [.long model.toInt64, .long 0, .long 2]) (n := 3) (rest := []) ⟨hx, hb, hml, hown, hW⟩ (kX7_in l model.toInt64 0 2) (wa tw628 rfl) (wa tw626 rfl) (wa tw627 rfl) (wa tw8 rfl) (by decide +kernel) ⟨Nat.le_of_ble_eq_true rfl, Nat.le_of_ble_eq_true rfl⟩ pS0 hl.1 rfl (Nat.le_of_ble_eq_true rfl) dX7_isModel_6 ⟨Nat.le_of_ble_eq_true rfl, Nat.le_of_ble_eq_true rfl⟩ rfl rfl rfl) ?_
  exact W.zret (v := f7_in model.toInt64 0 2) hx hb hr (f7_in_z model.toInt64 0 2) (fun t ht _ => ⟨_, rfl, (by simp only [f7_isModel]), ht⟩) (fun q h => by cases h) dX7_isModel_9

def f7_isTool (t : Int32) : Int32 := (f7_in t.toInt64 0 3)
set_option maxHeartbeats 4000000 in
set_option maxRecDepth 100000 in
theorem kX7_isTool (l : Launch) (t : Int32)  : Si l yX7_isTool cX7_isTool 1 .boolean 1 [.int t] (f7_isTool t) := by
  refine Met.ofW (cc := cX7_isTool) (maxL := 1) (ret := (some .boolean)) (by decide) rfl ?_
  intro p e s m args below meth c s₁ B hml hv
  obtain ⟨rfl, -⟩ := hv
  have hx := B.exec
  have hb := B.bytes
  have hr := B.returns
  have hts := atoms_spec (ws := wm yX7_isTool cX7_isTool 1 (some .boolean)) B.pre
  have hown : s.vm.findClass RX7 = some m.cls := findClass_of_methodNamed B.named
  have hlocks := B.notSynchronized
  have hW : ∀ w ∈ WA, w.before _ s = true := fun w h => hts w (List.mem_cons_of_mem _ h)
  have hl := lv_entry ([.int t]) (n := 1) (Nat.le_of_ble_eq_true rfl)
  rw [lg_entry_eq]
  generalize (lg_sl ([.int t]) ++ List.replicate (1 - (lg_sl ([.int t])).length) Slot.unset).toArray = ls at hl ⊢
  have hl : lv_has ls 1 [(0, .int t)] := hl
  refine lv_iload_n hx hb dX7_isTool_0 rfl (lv_at hl 0 rfl) ?_
  refine lv_i2l (v := t.toInt64) hx hb dX7_isTool_1 rfl ?_
  refine lv_lconst (v := 0) hx hb dX7_isTool_2 (by decide) ?_
  refine lv_ldc2 hx hb hown (hW _ (wa tw630 rfl)) dX7_isTool_3 ?_
  refine xri (r := f7_in t.toInt64 0 3) (rS (As := [.long t.toInt64, .long 0, .long 3]) (n := 3) (rest := []) ⟨hx, hb, hml, hown, hW⟩ (kX7_in l t.toInt64 0 3) (wa tw628 rfl) (wa tw626 rfl) (wa tw627 rfl) (wa tw8 rfl) (by decide +kernel) ⟨Nat.le_of_ble_eq_true rfl, Nat.le_of_ble_eq_true rfl⟩ pS0 hl.1 rfl (Nat.le_of_ble_eq_true rfl) dX7_isTool_6 ⟨Nat.le_of_ble_eq_true rfl, Nat.le_of_ble_eq_true rfl⟩ rfl rfl rfl) ?_
  exact W.zret (v := f7_in t.toInt64 0 3) hx hb hr (f7_in_z t.toInt64 0 3) (fun t ht _ => ⟨_, rfl, (by simp only [f7_isTool]), ht⟩) (fun q h => by cases h) dX7_isTool_9

def f7_termsOf (model : Int32) : Int32 := (if model = 0 then (1) else (3))
set_option maxHeartbeats 4000000 in
set_option maxRecDepth 100000 in
theorem kX7_termsOf (l : Launch) (model : Int32)  : Si l yX7_termsOf cX7_termsOf 1 .int 0 [.int model] (f7_termsOf model) := by
  refine Met.ofW (cc := cX7_termsOf) (maxL := 1) (ret := (some .int)) (by decide) rfl ?_
  intro p e s m args below meth c s₁ B hml hv
  obtain ⟨rfl, -⟩ := hv
  have hx := B.exec
  have hb := B.bytes
  have hr := B.returns
  have hts := atoms_spec (ws := wm yX7_termsOf cX7_termsOf 1 (some .int)) B.pre
  have hown : s.vm.findClass RX7 = some m.cls := findClass_of_methodNamed B.named
  have hlocks := B.notSynchronized
  have hW : ∀ w ∈ WA, w.before _ s = true := fun w h => hts w (List.mem_cons_of_mem _ h)
  have hl := lv_entry ([.int model]) (n := 1) (Nat.le_of_ble_eq_true rfl)
  rw [lg_entry_eq]
  generalize (lg_sl ([.int model]) ++ List.replicate (1 - (lg_sl ([.int model])).length) Slot.unset).toArray = ls at hl ⊢
  have hl : lv_has ls 1 [(0, .int model)] := hl
  refine lv_iload_n hx hb dX7_termsOf_0 rfl (lv_at hl 0 rfl) ?_
  refine lv_if_ne (tgt := 8) hx hb dX7_termsOf_1 (by decide) (fun c_1 => ?_) (fun c_1 => ?_)
  · refine lv_iconst (v := 3) hx hb dX7_termsOf_8 (by decide) ?_
    exact W.iret (v := 3) hx hb hr (fun t ht _ => ⟨_, rfl, (by simp only [f7_termsOf, if_neg c_1]), ht⟩) (fun q h => by cases h) dX7_termsOf_9
  · refine lv_iconst (v := 1) hx hb dX7_termsOf_4 (by decide) ?_
    refine lv_goto (tgt := 9) hx hb dX7_termsOf_5 (by decide) ?_
    exact W.iret (v := 1) hx hb hr (fun t ht _ => ⟨_, rfl, (by simp only [f7_termsOf, if_pos c_1]), ht⟩) (fun q h => by cases h) dX7_termsOf_9

def f7_size (v : Int64) : Int64 := (if 0 ≤ v then (v) else (-v))
set_option maxHeartbeats 4000000 in
set_option maxRecDepth 100000 in
theorem kX7_size (l : Launch) (v : Int64)  : Sl l yX7_size cX7_size 2 0 [.long v] (f7_size v) := by
  refine Met.ofW (cc := cX7_size) (maxL := 2) (ret := (some .long)) (by decide) rfl ?_
  intro p e s m args below meth c s₁ B hml hv
  obtain ⟨rfl, -⟩ := hv
  have hx := B.exec
  have hb := B.bytes
  have hr := B.returns
  have hts := atoms_spec (ws := wm yX7_size cX7_size 2 (some .long)) B.pre
  have hown : s.vm.findClass RX7 = some m.cls := findClass_of_methodNamed B.named
  have hlocks := B.notSynchronized
  have hW : ∀ w ∈ WA, w.before _ s = true := fun w h => hts w (List.mem_cons_of_mem _ h)
  have hl := lv_entry ([.long v]) (n := 2) (Nat.le_of_ble_eq_true rfl)
  rw [lg_entry_eq]
  generalize (lg_sl ([.long v]) ++ List.replicate (2 - (lg_sl ([.long v])).length) Slot.unset).toArray = ls at hl ⊢
  have hl : lv_has ls 2 [(0, .long v)] := hl
  refine lv_lload_n hx hb dX7_size_0 rfl (lv_at hl 0 rfl) ?_
  refine lv_lconst (v := 0) hx hb dX7_size_1 (by decide) ?_
  refine xlcmp_ge (tgt := 11) hx hb dX7_size_2 dX7_size_3 (by decide) (fun c_1 => ?_) (fun c_1 => ?_)
  · refine lv_lload_n hx hb dX7_size_11 rfl (lv_at hl 0 rfl) ?_
    exact W.lret (v := v) hx hb hr (fun t ht _ => ⟨_, rfl, (by simp only [f7_size, if_pos c_1]), ht⟩) (fun q h => by cases h) dX7_size_12
  · refine lv_lload_n hx hb dX7_size_6 rfl (lv_at hl 0 rfl) ?_
    refine lv_lneg hx hb dX7_size_7 ?_
    refine lv_goto (tgt := 12) hx hb dX7_size_8 (by decide) ?_
    exact W.lret (v := -v) hx hb hr (fun t ht _ => ⟨_, rfl, (by simp only [f7_size, if_neg c_1]), ht⟩) (fun q h => by cases h) dX7_size_12

def f7_isAhead (x y : Int32) : Int32 := (if ((x &&& (x ^^^ y)) &&& (-(x ^^^ y))) = 0 then (0) else (1))
set_option maxHeartbeats 4000000 in
set_option maxRecDepth 100000 in
theorem kX7_isAhead (l : Launch) (x y : Int32)  : Si l yX7_isAhead cX7_isAhead 3 .boolean 0 [.int x, .int y] (f7_isAhead x y) := by
  refine Met.ofW (cc := cX7_isAhead) (maxL := 3) (ret := (some .boolean)) (by decide) rfl ?_
  intro p e s m args below meth c s₁ B hml hv
  obtain ⟨rfl, -⟩ := hv
  have hx := B.exec
  have hb := B.bytes
  have hr := B.returns
  have hts := atoms_spec (ws := wm yX7_isAhead cX7_isAhead 3 (some .boolean)) B.pre
  have hown : s.vm.findClass RX7 = some m.cls := findClass_of_methodNamed B.named
  have hlocks := B.notSynchronized
  have hW : ∀ w ∈ WA, w.before _ s = true := fun w h => hts w (List.mem_cons_of_mem _ h)
  have hl := lv_entry ([.int x, .int y]) (n := 3) (Nat.le_of_ble_eq_true rfl)
  rw [lg_entry_eq]
  generalize (lg_sl ([.int x, .int y]) ++ List.replicate (3 - (lg_sl ([.int x, .int y])).length) Slot.unset).toArray = ls at hl ⊢
  have hl : lv_has ls 3 [(0, .int x), (1, .int y)] := hl
  refine lv_iload_n hx hb dX7_isAhead_0 rfl (lv_at hl 0 rfl) ?_
  refine lv_iload_n hx hb dX7_isAhead_1 rfl (lv_at hl 1 rfl) ?_
  refine lv_ixor hx hb dX7_isAhead_2 ?_
  refine lv_istore_n (lv' := [(2, .int (x ^^^ y)), (0, .int x), (1, .int y)]) hx hb dX7_isAhead_3 rfl hl (by decide) rfl (fun ls hl => ?_)
  refine lv_iload_n hx hb dX7_isAhead_4 rfl (lv_at hl 1 rfl) ?_
  refine lv_iload_n hx hb dX7_isAhead_5 rfl (lv_at hl 0 rfl) ?_
  refine lv_iand hx hb dX7_isAhead_6 ?_
  refine lv_iload_n hx hb dX7_isAhead_7 rfl (lv_at hl 0 rfl) ?_
  refine lv_ineg hx hb dX7_isAhead_8 ?_
  refine lv_iand hx hb dX7_isAhead_9 ?_
  refine lv_if_eq (tgt := 17) hx hb dX7_isAhead_10 (by decide) (fun c_1 => ?_) (fun c_1 => ?_)
  · refine lv_iconst (v := 0) hx hb dX7_isAhead_17 (by decide) ?_
    exact W.zret (v := 0) hx hb hr rfl (fun t ht _ => ⟨_, rfl, (by simp only [f7_isAhead, if_pos c_1]), ht⟩) (fun q h => by cases h) dX7_isAhead_18
  · refine lv_iconst (v := 1) hx hb dX7_isAhead_13 (by decide) ?_
    refine lv_goto (tgt := 18) hx hb dX7_isAhead_14 (by decide) ?_
    exact W.zret (v := 1) hx hb hr rfl (fun t ht _ => ⟨_, rfl, (by simp only [f7_isAhead, if_neg c_1]), ht⟩) (fun q h => by cases h) dX7_isAhead_18

def bitsL (set : Int32) : Nat → Nat → Int32 → Int32
  | 0, _, acc => acc
  | n + 1, k, acc => bitsL set n (k + 1) (acc + ((set >>> (nI k &&& 31)) &&& 1))
def f7_bits (set : Int32) : Int32 := bitsL set 12 0 0

set_option maxHeartbeats 4000000 in
set_option maxRecDepth 100000 in
theorem kX7_bits (l : Launch) (set : Int32)  : Si l yX7_bits cX7_bits 3 .int 0 [.int set] (f7_bits set) := by
  refine Met.ofW (cc := cX7_bits) (maxL := 3) (ret := (some .int)) (by decide) rfl ?_
  intro p e s m args below meth c s₁ B hml hv
  obtain ⟨rfl, -⟩ := hv
  have hx := B.exec
  have hb := B.bytes
  have hr := B.returns
  have hts := atoms_spec (ws := wm yX7_bits cX7_bits 3 (some .int)) B.pre
  have hown : s.vm.findClass RX7 = some m.cls := findClass_of_methodNamed B.named
  have hlocks := B.notSynchronized
  have hW : ∀ w ∈ WA, w.before _ s = true := fun w h => hts w (List.mem_cons_of_mem _ h)
  have hl := lv_entry ([.int set]) (n := 3) (Nat.le_of_ble_eq_true rfl)
  rw [lg_entry_eq]
  generalize (lg_sl ([.int set]) ++ List.replicate (3 - (lg_sl ([.int set])).length) Slot.unset).toArray = ls at hl ⊢
  have hl : lv_has ls 3 [(0, .int set)] := hl
  refine lv_iconst (v := 0) hx hb dX7_bits_0 (by decide) ?_
  refine lv_istore_n (lv' := [(1, .int 0), (0, .int set)]) hx hb dX7_bits_1 rfl hl (by decide) rfl (fun ls hl => ?_)
  refine lv_iconst (v := 0) hx hb dX7_bits_2 (by decide) ?_
  refine lv_istore_n (lv' := [(2, .int 0), (1, .int 0), (0, .int set)]) hx hb dX7_bits_3 rfl hl (by decide) rfl (fun ls hl => ?_)
  obtain ⟨n4, k, acc, hinv⟩ : ∃ (n4 : Nat) (k : Nat) (acc : Int32), (k + n4 = 12) ∧ (bitsL set n4 k acc = f7_bits set) ∧ lv_has ls 3 [(0, .int set), (1, .int acc), (2, .int (nI k))] := ⟨12, 0, 0, rfl, rfl, lv_sub hl [2, 1, 0] rfl⟩
  clear hl
  induction n4 generalizing k acc ls with
  | zero =>
    obtain ⟨h4_0, h4_1, hl⟩ := hinv
    refine lv_iload_n hx hb dX7_bits_4 rfl (lv_at hl 2 rfl) ?_
    refine lv_bipush (v := 12) hx hb dX7_bits_5 (by decide) ?_
    refine lv_icmp_ge (tgt := 24) hx hb dX7_bits_7 (by decide) (fun c_1 => ?_) (fun c_1 => ?_)
    · refine lv_iload_n hx hb dX7_bits_24 rfl (lv_at hl 1 rfl) ?_
      exact W.iret (v := acc) hx hb hr (fun t ht _ => ⟨_, rfl, h4_1, ht⟩) (fun q h => by cases h) dX7_bits_25
    · exact lt_end h4_0 (by decide) c_1
  | succ n4 ih4 =>
    obtain ⟨h4_0, h4_1, hl⟩ := hinv
    refine lv_iload_n hx hb dX7_bits_4 rfl (lv_at hl 2 rfl) ?_
    refine lv_bipush (v := 12) hx hb dX7_bits_5 (by decide) ?_
    refine lv_icmp_ge (tgt := 24) hx hb dX7_bits_7 (by decide) (fun c_2 => ?_) (fun c_2 => ?_)
    · exact lt_go h4_0 (by decide) c_2
    · refine lv_iload_n hx hb dX7_bits_10 rfl (lv_at hl 1 rfl) ?_
      refine lv_iload_n hx hb dX7_bits_11 rfl (lv_at hl 0 rfl) ?_
      refine lv_iload_n hx hb dX7_bits_12 rfl (lv_at hl 2 rfl) ?_
      refine lv_ishr hx hb dX7_bits_13 ?_
      refine lv_iconst (v := 1) hx hb dX7_bits_14 (by decide) ?_
      refine lv_iand hx hb dX7_bits_15 ?_
      refine lv_iadd hx hb dX7_bits_16 ?_
      refine lv_istore_n (lv' := [(1, .int (acc + ((set >>> ((nI k) &&& 31)) &&& 1))), (0, .int set), (2, .int (nI k))]) hx hb dX7_bits_17 rfl hl (by decide) rfl (fun ls hl => ?_)
      refine lv_iinc (v := nI k + 1) (lv' := [(2, .int (nI k + 1)), (1, .int (acc + ((set >>> ((nI k) &&& 31)) &&& 1))), (0, .int set)]) hx hb dX7_bits_18 hl (k := 2) rfl rfl (by decide) rfl (fun ls hl => ?_)
      refine lv_goto (tgt := 4) hx hb dX7_bits_21 (by decide) ?_
      rw [nI_1] at hl
      exact ih4 (k := k + 1) (acc := (acc + ((set >>> ((nI k) &&& 31)) &&& 1))) (ls := ls) ⟨by omega, h4_1, lv_sub hl [2, 1, 0] rfl⟩

def cdL : Nat → Int64 → Int64 → Int64
  | 0, x, _ => x
  | n + 1, x, y => if y = 0 then x else cdL n y (x - x / y * y)
def f6_cd (x y : Int64) : Int64 := cdL 100 x y

set_option maxHeartbeats 4000000 in
set_option maxRecDepth 100000 in
theorem kX6_commonDivisor (l : Launch) (x y : Int64)  : Sl l yX6_commonDivisor cX6_commonDivisor 7 0 [.long x, .long y] (f6_cd x y) := by
  refine Met.ofW (cc := cX6_commonDivisor) (maxL := 7) (ret := (some .long)) (by decide) rfl ?_
  intro p e s m args below meth c s₁ B hml hv
  obtain ⟨rfl, -⟩ := hv
  have hx := B.exec
  have hb := B.bytes
  have hr := B.returns
  have hts := atoms_spec (ws := wm yX6_commonDivisor cX6_commonDivisor 7 (some .long)) B.pre
  have hown : s.vm.findClass RX6 = some m.cls := findClass_of_methodNamed B.named
  have hlocks := B.notSynchronized
  have hW : ∀ w ∈ WA, w.before _ s = true := fun w h => hts w (List.mem_cons_of_mem _ h)
  have hl := lv_entry ([.long x, .long y]) (n := 7) (Nat.le_of_ble_eq_true rfl)
  rw [lg_entry_eq]
  generalize (lg_sl ([.long x, .long y]) ++ List.replicate (7 - (lg_sl ([.long x, .long y])).length) Slot.unset).toArray = ls at hl ⊢
  have hl : lv_has ls 7 [(0, .long x), (2, .long y)] := hl
  refine lv_iconst (v := 0) hx hb dX6_commonDivisor_0 (by decide) ?_
  refine lv_istore (lv' := [(4, .int 0), (0, .long x), (2, .long y)]) hx hb dX6_commonDivisor_1 hl (by decide) rfl (fun ls hl => ?_)
  obtain ⟨n3, k, u, v, hinv⟩ : ∃ (n3 : Nat) (k : Nat) (u : Int64) (v : Int64), (k + n3 = 100) ∧ (cdL n3 u v = f6_cd x y) ∧ lv_has ls 7 [(0, .long u), (2, .long v), (4, .int (nI k))] := ⟨100, 0, x, y, rfl, rfl, lv_sub hl [1, 2, 0] rfl⟩
  clear hl
  induction n3 generalizing k u v ls with
  | zero =>
    obtain ⟨h3_0, h3_1, hl⟩ := hinv
    refine lv_iload hx hb dX6_commonDivisor_3 (lv_at hl 2 rfl) ?_
    refine lv_bipush (v := 100) hx hb dX6_commonDivisor_5 (by decide) ?_
    refine lv_icmp_ge (tgt := 32) hx hb dX6_commonDivisor_7 (by decide) (fun c_1 => ?_) (fun c_1 => ?_)
    · refine lv_lload_n hx hb dX6_commonDivisor_32 rfl (lv_at hl 0 rfl) ?_
      exact W.lret (v := u) hx hb hr (fun t ht _ => ⟨_, rfl, h3_1, ht⟩) (fun q h => by cases h) dX6_commonDivisor_33
    · exact lt_end h3_0 (by decide) c_1
  | succ n3 ih3 =>
    obtain ⟨h3_0, h3_1, hl⟩ := hinv
    refine lv_iload hx hb dX6_commonDivisor_3 (lv_at hl 2 rfl) ?_
    refine lv_bipush (v := 100) hx hb dX6_commonDivisor_5 (by decide) ?_
    refine lv_icmp_ge (tgt := 32) hx hb dX6_commonDivisor_7 (by decide) (fun c_2 => ?_) (fun c_2 => ?_)
    · exact lt_go h3_0 (by decide) c_2
    · refine lv_lload_n hx hb dX6_commonDivisor_10 rfl (lv_at hl 1 rfl) ?_
      refine lv_lconst (v := 0) hx hb dX6_commonDivisor_11 (by decide) ?_
      refine xlcmp_eq (tgt := 32) hx hb dX6_commonDivisor_12 dX6_commonDivisor_13 (by decide) (fun c_3 => ?_) (fun c_3 => ?_)
      · refine lv_lload_n hx hb dX6_commonDivisor_32 rfl (lv_at hl 0 rfl) ?_
        exact W.lret (v := u) hx hb hr (fun t ht _ => ⟨_, rfl, (by rw [← h3_1, cdL, if_pos c_3]), ht⟩) (fun q h => by cases h) dX6_commonDivisor_33
      · refine lv_lload_n hx hb dX6_commonDivisor_16 rfl (lv_at hl 0 rfl) ?_
        refine lv_lload_n hx hb dX6_commonDivisor_17 rfl (lv_at hl 1 rfl) ?_
        refine lv_lrem hx hb dX6_commonDivisor_18 c_3 ?_
        refine lv_lstore (lv' := [(5, .long (u - u / v * v)), (0, .long u), (2, .long v), (4, .int (nI k))]) hx hb dX6_commonDivisor_19 hl (by decide) rfl (fun ls hl => ?_)
        refine lv_lload_n hx hb dX6_commonDivisor_21 rfl (lv_at hl 2 rfl) ?_
        refine lv_lstore_n (lv' := [(0, .long v), (5, .long (u - u / v * v)), (2, .long v), (4, .int (nI k))]) hx hb dX6_commonDivisor_22 rfl hl (by decide) rfl (fun ls hl => ?_)
        refine lv_lload hx hb dX6_commonDivisor_23 (lv_at hl 1 rfl) ?_
        refine lv_lstore_n (lv' := [(2, .long (u - u / v * v)), (0, .long v), (5, .long (u - u / v * v)), (4, .int (nI k))]) hx hb dX6_commonDivisor_25 rfl hl (by decide) rfl (fun ls hl => ?_)
        refine lv_iinc (v := nI k + 1) (lv' := [(4, .int (nI k + 1)), (2, .long (u - u / v * v)), (0, .long v), (5, .long (u - u / v * v))]) hx hb dX6_commonDivisor_26 hl (k := 3) rfl rfl (by decide) rfl (fun ls hl => ?_)
        refine lv_goto (tgt := 3) hx hb dX6_commonDivisor_29 (by decide) ?_
        rw [nI_1] at hl
        exact ih3 (k := k + 1) (u := v) (v := (u - u / v * v)) (ls := ls) ⟨by omega, by rw [← h3_1, cdL, if_neg c_3], lv_sub hl [2, 1, 0] rfl⟩

def f6_partOf (up lo : Int64) (what : Int32) : Int64 := (if (f6_cd (absL up) lo) = 0 then (0) else (if what = 0 then (up / (f6_cd (absL up) lo)) else (lo / (f6_cd (absL up) lo))))
set_option maxHeartbeats 4000000 in
set_option maxRecDepth 100000 in
theorem kX6_partOf (l : Launch) (up lo : Int64) (what : Int32)  : Sl l yX6_partOf cX6_partOf 7 1 [.long up, .long lo, .int what] (f6_partOf up lo what) := by
  refine Met.ofW (cc := cX6_partOf) (maxL := 7) (ret := (some .long)) (by decide) rfl ?_
  intro p e s m args below meth c s₁ B hml hv
  obtain ⟨rfl, -⟩ := hv
  have hx := B.exec
  have hb := B.bytes
  have hr := B.returns
  have hts := atoms_spec (ws := wm yX6_partOf cX6_partOf 7 (some .long)) B.pre
  have hown : s.vm.findClass RX6 = some m.cls := findClass_of_methodNamed B.named
  have hlocks := B.notSynchronized
  have hW : ∀ w ∈ WA, w.before _ s = true := fun w h => hts w (List.mem_cons_of_mem _ h)
  have hl := lv_entry ([.long up, .long lo, .int what]) (n := 7) (Nat.le_of_ble_eq_true rfl)
  rw [lg_entry_eq]
  generalize (lg_sl ([.long up, .long lo, .int what]) ++ List.replicate (7 - (lg_sl ([.long up, .long lo, .int what])).length) Slot.unset).toArray = ls at hl ⊢
  have hl : lv_has ls 7 [(0, .long up), (2, .long lo), (4, .int what)] := hl
  refine lv_lload_n hx hb dX6_partOf_0 rfl (lv_at hl 0 rfl) ?_
  refine va_mabs_long hx hb (hml.trans hl.1.symm) hown (hW _ (wa tw378 rfl)) (hW _ (wa tw379 rfl)) (hW _ (wa tw10 rfl)) (hW _ (wa tw380 rfl)) (Nat.le_of_ble_eq_true rfl) (Nat.le_of_ble_eq_true rfl) (Nat.le_of_ble_eq_true rfl) (Nat.le_of_ble_eq_true rfl) dX6_partOf_1 ?_
  refine W.eq (g2 := F0 m 4 ls [.long (absL up)]) rfl ?_
  refine lv_lload_n hx hb dX6_partOf_4 rfl (lv_at hl 1 rfl) ?_
  refine xrl (r := f6_cd (absL up) lo) (rS (As := [.long (absL up), .long lo]) (n := 2) (rest := []) ⟨hx, hb, hml, hown, hW⟩ (kX6_commonDivisor l (absL up) lo) (wa tw383 rfl) (wa tw381 rfl) (wa tw382 rfl) (wa tw1 rfl) (by decide +kernel) ⟨Nat.le_of_ble_eq_true rfl, Nat.le_of_ble_eq_true rfl⟩ pS0 hl.1 rfl (Nat.le_of_ble_eq_true rfl) dX6_partOf_5 ⟨Nat.le_of_ble_eq_true rfl, Nat.le_of_ble_eq_true rfl⟩ rfl rfl rfl) ?_
  refine lv_lstore (lv' := [(5, .long (f6_cd (absL up) lo)), (0, .long up), (2, .long lo), (4, .int what)]) hx hb dX6_partOf_8 hl (by decide) rfl (fun ls hl => ?_)
  refine lv_lload hx hb dX6_partOf_10 (lv_at hl 0 rfl) ?_
  refine lv_lconst (v := 0) hx hb dX6_partOf_12 (by decide) ?_
  refine xlcmp_ne (tgt := 19) hx hb dX6_partOf_13 dX6_partOf_14 (by decide) (fun c_1 => ?_) (fun c_1 => ?_)
  · refine lv_iload hx hb dX6_partOf_19 (lv_at hl 3 rfl) ?_
    refine lv_if_ne (tgt := 28) hx hb dX6_partOf_21 (by decide) (fun c_2 => ?_) (fun c_2 => ?_)
    · refine lv_lload_n hx hb dX6_partOf_28 rfl (lv_at hl 2 rfl) ?_
      refine lv_lload hx hb dX6_partOf_29 (lv_at hl 0 rfl) ?_
      refine lv_ldiv hx hb dX6_partOf_31 c_1 ?_
      exact W.lret (v := lo / (f6_cd (absL up) lo)) hx hb hr (fun t ht _ => ⟨_, rfl, (by simp only [f6_partOf, if_neg c_1, if_neg c_2]), ht⟩) (fun q h => by cases h) dX6_partOf_32
    · refine lv_lload_n hx hb dX6_partOf_24 rfl (lv_at hl 1 rfl) ?_
      refine lv_goto (tgt := 29) hx hb dX6_partOf_25 (by decide) ?_
      refine lv_lload hx hb dX6_partOf_29 (lv_at hl 0 rfl) ?_
      refine lv_ldiv hx hb dX6_partOf_31 c_1 ?_
      exact W.lret (v := up / (f6_cd (absL up) lo)) hx hb hr (fun t ht _ => ⟨_, rfl, (by simp only [f6_partOf, if_neg c_1, if_pos c_2]), ht⟩) (fun q h => by cases h) dX6_partOf_32
  · refine lv_lconst (v := 0) hx hb dX6_partOf_17 (by decide) ?_
    exact W.lret (v := 0) hx hb hr (fun t ht _ => ⟨_, rfl, (by simp only [f6_partOf, if_pos c_1]), ht⟩) (fun q h => by cases h) dX6_partOf_18

theorem q_remL (x y : Int64) : (x - x / y * y).toInt = x.toInt.tmod y.toInt := by
  rw [Int64.toInt_sub, Int64.toInt_mul, Int64.toInt_div, Int.bmod_mul_bmod, Int.sub_bmod_bmod]
  rw [show x.toInt - x.toInt.tdiv y.toInt * y.toInt = (x % y).toInt from by rw [Int64.toInt_mod, Int.tmod_def, Int.mul_comm]]
  rw [Int64.toInt_bmod, Int64.toInt_mod]
theorem q_rem_lt (x : Int64) {y : Int64} (h : ¬ y = 0) : (x - x / y * y).toInt.natAbs < y.toInt.natAbs := by
  have h0 : y.toInt ≠ 0 := fun q => h (Int64.toInt_inj.mp (by rw [q]; rfl))
  rw [q_remL, Int.natAbs_tmod]
  exact Nat.mod_lt _ (Int.natAbs_pos.mpr h0)
def f7_gc (x y : Int64) : Int64 := cdL y.toInt.natAbs x y
def f7_share (up lo : Int64) (what : Int32) : Int64 := if what = 0 then up / f7_gc (f7_size up) lo else lo / f7_gc (f7_size up) lo

set_option maxHeartbeats 4000000 in
set_option maxRecDepth 100000 in
theorem kX7_share (l : Launch) (up lo : Int64) (what : Int32) (hlo : ¬ lo = 0) : Sl l yX7_share cX7_share 11 1 [.long up, .long lo, .int what] (f7_share up lo what) := by
  refine Met.ofW (cc := cX7_share) (maxL := 11) (ret := (some .long)) (by decide) rfl ?_
  intro p e s m args below meth c s₁ B hml hv
  obtain ⟨rfl, -⟩ := hv
  have hx := B.exec
  have hb := B.bytes
  have hr := B.returns
  have hts := atoms_spec (ws := wm yX7_share cX7_share 11 (some .long)) B.pre
  have hown : s.vm.findClass RX7 = some m.cls := findClass_of_methodNamed B.named
  have hlocks := B.notSynchronized
  have hW : ∀ w ∈ WA, w.before _ s = true := fun w h => hts w (List.mem_cons_of_mem _ h)
  have hl := lv_entry ([.long up, .long lo, .int what]) (n := 11) (Nat.le_of_ble_eq_true rfl)
  rw [lg_entry_eq]
  generalize (lg_sl ([.long up, .long lo, .int what]) ++ List.replicate (11 - (lg_sl ([.long up, .long lo, .int what])).length) Slot.unset).toArray = ls at hl ⊢
  have hl : lv_has ls 11 [(0, .long up), (2, .long lo), (4, .int what)] := hl
  refine lv_lload_n hx hb dX7_share_0 rfl (lv_at hl 0 rfl) ?_
  refine xrl (r := f7_size up) (rS (As := [.long up]) (n := 1) (rest := []) ⟨hx, hb, hml, hown, hW⟩ (kX7_size l up) (wa tw710 rfl) (wa tw708 rfl) (wa tw709 rfl) (wa tw8 rfl) (by decide +kernel) ⟨Nat.le_of_ble_eq_true rfl, Nat.le_of_ble_eq_true rfl⟩ pS0 hl.1 rfl (Nat.le_of_ble_eq_true rfl) dX7_share_1 ⟨Nat.le_of_ble_eq_true rfl, Nat.le_of_ble_eq_true rfl⟩ rfl rfl rfl) ?_
  refine lv_lstore (lv' := [(5, .long (f7_size up)), (0, .long up), (2, .long lo), (4, .int what)]) hx hb dX7_share_4 hl (by decide) rfl (fun ls hl => ?_)
  refine lv_lload_n hx hb dX7_share_6 rfl (lv_at hl 2 rfl) ?_
  refine lv_lstore (lv' := [(7, .long lo), (5, .long (f7_size up)), (0, .long up), (2, .long lo), (4, .int what)]) hx hb dX7_share_7 hl (by decide) rfl (fun ls hl => ?_)
  obtain ⟨n9, u, v, hinv⟩ : ∃ (n9 : Nat) (u : Int64) (v : Int64), (v.toInt.natAbs ≤ n9) ∧ (cdL n9 u v = f7_gc (f7_size up) lo) ∧ (¬ (u = 0 ∧ v = 0)) ∧ lv_has ls 11 [(0, .long up), (2, .long lo), (4, .int what), (5, .long u), (7, .long v)] := ⟨lo.toInt.natAbs, (f7_size up), lo, Nat.le_refl _, rfl, fun q => hlo q.2, lv_sub hl [2, 3, 4, 1, 0] rfl⟩
  clear hl
  induction n9 generalizing u v ls with
  | zero =>
    obtain ⟨h9_0, h9_1, h9_2, hl⟩ := hinv
    refine lv_lload hx hb dX7_share_9 (lv_at hl 4 rfl) ?_
    refine lv_lconst (v := 0) hx hb dX7_share_11 (by decide) ?_
    refine xlcmp_eq (tgt := 34) hx hb dX7_share_12 dX7_share_13 (by decide) (fun c_1 => ?_) (fun c_1 => ?_)
    · refine lv_iload hx hb dX7_share_34 (lv_at hl 2 rfl) ?_
      refine lv_if_ne (tgt := 46) hx hb dX7_share_36 (by decide) (fun c_2 => ?_) (fun c_2 => ?_)
      · refine lv_lload_n hx hb dX7_share_46 rfl (lv_at hl 1 rfl) ?_
        refine lv_lload hx hb dX7_share_47 (lv_at hl 3 rfl) ?_
        refine lv_ldiv hx hb dX7_share_49 (fun q => h9_2 ⟨q, c_1⟩) ?_
        exact W.lret (v := lo / u) hx hb hr (fun t ht _ => ⟨_, rfl, (by rw [f7_share, if_neg c_2, ← h9_1, cdL]), ht⟩) (fun q h => by cases h) dX7_share_50
      · refine lv_lload_n hx hb dX7_share_39 rfl (lv_at hl 0 rfl) ?_
        refine lv_lload hx hb dX7_share_40 (lv_at hl 3 rfl) ?_
        refine lv_ldiv hx hb dX7_share_42 (fun q => h9_2 ⟨q, c_1⟩) ?_
        refine lv_goto (tgt := 50) hx hb dX7_share_43 (by decide) ?_
        exact W.lret (v := up / u) hx hb hr (fun t ht _ => ⟨_, rfl, (by rw [f7_share, if_pos c_2, ← h9_1, cdL]), ht⟩) (fun q h => by cases h) dX7_share_50
    · exact absurd (Int64.toInt_inj.mp (Int.natAbs_eq_zero.mp (Nat.le_zero.mp h9_0))) c_1
  | succ n9 ih9 =>
    obtain ⟨h9_0, h9_1, h9_2, hl⟩ := hinv
    refine lv_lload hx hb dX7_share_9 (lv_at hl 4 rfl) ?_
    refine lv_lconst (v := 0) hx hb dX7_share_11 (by decide) ?_
    refine xlcmp_eq (tgt := 34) hx hb dX7_share_12 dX7_share_13 (by decide) (fun c_3 => ?_) (fun c_3 => ?_)
    · refine lv_iload hx hb dX7_share_34 (lv_at hl 2 rfl) ?_
      refine lv_if_ne (tgt := 46) hx hb dX7_share_36 (by decide) (fun c_4 => ?_) (fun c_4 => ?_)
      · refine lv_lload_n hx hb dX7_share_46 rfl (lv_at hl 1 rfl) ?_
        refine lv_lload hx hb dX7_share_47 (lv_at hl 3 rfl) ?_
        refine lv_ldiv hx hb dX7_share_49 (fun q => h9_2 ⟨q, c_3⟩) ?_
        exact W.lret (v := lo / u) hx hb hr (fun t ht _ => ⟨_, rfl, (by rw [f7_share, if_neg c_4, ← h9_1, cdL, if_pos c_3]), ht⟩) (fun q h => by cases h) dX7_share_50
      · refine lv_lload_n hx hb dX7_share_39 rfl (lv_at hl 0 rfl) ?_
        refine lv_lload hx hb dX7_share_40 (lv_at hl 3 rfl) ?_
        refine lv_ldiv hx hb dX7_share_42 (fun q => h9_2 ⟨q, c_3⟩) ?_
        refine lv_goto (tgt := 50) hx hb dX7_share_43 (by decide) ?_
        exact W.lret (v := up / u) hx hb hr (fun t ht _ => ⟨_, rfl, (by rw [f7_share, if_pos c_4, ← h9_1, cdL, if_pos c_3]), ht⟩) (fun q h => by cases h) dX7_share_50
    · refine lv_lload hx hb dX7_share_16 (lv_at hl 3 rfl) ?_
      refine lv_lload hx hb dX7_share_18 (lv_at hl 4 rfl) ?_
      refine lv_lrem hx hb dX7_share_20 c_3 ?_
      refine lv_lstore (lv' := [(9, .long (u - u / v * v)), (0, .long up), (2, .long lo), (4, .int what), (5, .long u), (7, .long v)]) hx hb dX7_share_21 hl (by decide) rfl (fun ls hl => ?_)
      refine lv_lload hx hb dX7_share_23 (lv_at hl 5 rfl) ?_
      refine lv_lstore (lv' := [(5, .long v), (9, .long (u - u / v * v)), (0, .long up), (2, .long lo), (4, .int what), (7, .long v)]) hx hb dX7_share_25 hl (by decide) rfl (fun ls hl => ?_)
      refine lv_lload hx hb dX7_share_27 (lv_at hl 1 rfl) ?_
      refine lv_lstore (lv' := [(7, .long (u - u / v * v)), (5, .long v), (9, .long (u - u / v * v)), (0, .long up), (2, .long lo), (4, .int what)]) hx hb dX7_share_29 hl (by decide) rfl (fun ls hl => ?_)
      refine lv_goto (tgt := 9) hx hb dX7_share_31 (by decide) ?_
      exact ih9 (u := v) (v := (u - u / v * v)) (ls := ls) ⟨Nat.le_of_lt_succ (Nat.lt_of_lt_of_le (q_rem_lt u c_3) h9_0), by rw [← h9_1, cdL, if_neg c_3], fun q => c_3 q.1, lv_sub hl [3, 4, 5, 1, 0] rfl⟩
