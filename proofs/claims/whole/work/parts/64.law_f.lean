/-! THE CLAIM OUT OF ONE WALK OF THE LAW'S BODY. Your part is whole_start (and what it stands on); all else here is the same for every law, but numbers. -/
def R_law : String := "FieldAfterFieldLaw"
def lw_P (b : Addr) (xs : List Int32) (args : Array Value) (s : State) : Prop := args = #[.ref b] ∧ s.IntsAt b xs ∧ xs.length ≤ 2560 ∧ (Jvm.Cond.and given_1 narrow_1).before args s = true
def lw_Q (_ : Array Value) (s : State) (o : Outcome) (t : State) : Prop := o = .returned (some (.int 1)) ∧ Framed s o t [] 600000 7302250
def lw_Z (below : List Frame) (a : Array Value) (s : State) : State → Prop := fun t => ∃ o, t.status = .running ∧ Ended t below o ∧ lw_Q a s o t
/-- the law's own end, with 1 on the stack, nothing written that was there before, its room as the claim has it -/
theorem lw_ret {p : Program} {l : Launch} {e : Env} {s : State} {m : MethodId} {below : List Frame} {meth : Method} {c : Code} {b : Nat} (hx : p.tables.exec = Jvm.exec) (hb : c.code = code) (hr : meth.sig.returnType = ret) (hlocks : meth.locks = false) {pc : Nat} {H : Heap} {ls : Array Slot} (hdg : decode code pc = .ok (.ireturn, 1)) : W p l e room_1 s m #[Value.ref b] below meth c H [] 600000 7302250 (lw_Z below #[Value.ref b] s) (F0 m pc ls [.int 1]) := by
  intro T hT X
  obtain ⟨fs, hret, hrun, hended, hW, hframe⟩ := X.leave (v := some (.int 1)) (hlocks := hlocks) (fun h => by rw [hr] at h; cases h)
  have hmeth' : T.vm.method? m = some meth := X.method'
  refine ⟨T.setFrames fs, ?_, .returned (some (.int 1)), hrun, hended, rfl, ⟨_, rfl⟩, hW, hframe⟩
  jvm_step X.here [X.here.top, hx, hb, hdg, hmeth', hr, ret, narrow_b1]
  (try refine ⟨rfl, ?_⟩); (try refine ⟨rfl, ?_⟩)
  first | (intro acts; rw [hret _ acts rfl rfl rfl]) | rw [hret _ _ rfl rfl rfl]
  exact Steps.refl _
/-- what holds at the law's entry: the machine, the code, the tables' words (any of lw_tbl by 'hts w (by decide +kernel)'), the script of L ints xs at the cell b, what the Statement gives of the start (any of its parts by flat_of_before) -/
def lw_At (p : Program) (s : State) (m : MethodId) (meth : Method) (c : Code) (b L : Nat) (xs : Nat → Int32) : Prop :=
  p.tables.exec = Jvm.exec ∧ c.code = code ∧ meth.sig.returnType = ret ∧ c.maxLocals = 4 ∧ s.vm.findClass R_law = some m.cls ∧ (∀ w ∈ lw_tbl, w.before #[Value.ref b] s = true) ∧ va_X b L xs s s.heap ∧ b < s.heap.size ∧ meth.locks = false ∧ (Jvm.Cond.and given_1 narrow_1).before #[Value.ref b] s = true
set_option maxHeartbeats 4000000 in
set_option maxRecDepth 100000 in
theorem lw_loop {p : Program} {l : Launch} {e : Env} {s : State} {m : MethodId} {below : List Frame} {meth : Method} {c : Code} {D : va_G} {C : Nat → ClassId} {ax am af ap ab ar a : Nat → Nat} {b LL : Nat} {xs : Nat → Int32} (hr : meth.sig.returnType = ret) (hlocks : meth.locks = false) (hC : Lc p s m c #[Value.ref b] D C (fun q : Nat => s.heap.size ≤ q) b LL xs) :
    ∀ (n i : Nat), i ≤ LL + 5 → LL + 6 ≤ i + n → ∀ (N lm om L : Nat) (M Bk Rt Z : Nat → Nat → Int32) (F Pt Y : Nat → Nat → Int64) (fm : Int32) (pi : Nat → Int32) (H : Heap) (locs : List Loc), SimA M Bk Rt Z N lm om L → va_P D vwCl (WW ax am af ap ab ar a C M F fm Pt pi Bk Rt Z Y) H → va_D (fun q : Nat => s.heap.size ≤ q) (WW ax am af ap ab ar a C M F fm Pt pi Bk Rt Z Y) → va_S (fun q : Nat => s.heap.size ≤ q) s.heap H locs → ∀ (ls : Array Slot), lv_has ls 4 [(0, .ref b), (1, .ref (ax 0)), (2, .ref (a 0)), (3, .int (nI i))] → W p l e room_1 s m #[Value.ref b] below meth c H locs 600000 7302250 (lw_Z below #[Value.ref b] s) (F0 m 18 ls []) := by
  obtain ⟨hx, hb, hml, hown, hW, hX, hbl, hbA, hA, hK, hNw, hLL⟩ := id hC
  intro n
  induction n with
  | zero =>
    intro i h1 h2
    exact absurd h2 (by omega)
  | succ n ih =>
    intro i h1 h2 N lm om L M Bk Rt Z F Pt Y fm pi H locs hsim hP hD hS ls hl
    refine lv_iload_n hx hb d_law_18 rfl (lv_at hl 3 rfl) ?_
    refine lv_aload_n hx hb d_law_19 rfl (lv_at hl 0 rfl) ?_
    refine va_slen hx hb hX hbl hbA hS d_law_20 ?_
    refine lv_iconst (v := 5) hx hb d_law_21 (by decide) ?_
    refine lv_isub hx hb d_law_22 ?_
    have hq : (Int32.ofNat LL - 5 < nI i) ↔ LL < i + 5 := q_subgt (N := LL) (d := 5) (k := i) (by omega) (by omega) (by omega)
    refine lv_icmp_gt (tgt := 886) hx hb d_law_23 (by decide) (fun c_1 => ?_) (fun c_1 => ?_)
    · refine lv_iconst (v := 1) hx hb d_law_886 (by decide) ?_
      refine va_forget (fun q hq => hS.2.2 q hq) ?_
      exact lw_ret hx hb hr hlocks d_law_887
    · have hi : i + 5 ≤ LL := by
        rcases Nat.lt_or_ge LL (i + 5) with q | q
        · exact absurd (hq.mpr q) c_1
        · exact q
      have kk : Lk p l e s m #[Value.ref b] below meth c (lw_Z below #[Value.ref b] s) D C (fun q : Nat => s.heap.size ≤ q) ax am af ap ab ar a ls := by
        intro N lm om L M Bk Rt Z F Pt Y fm pi H locs hsim hP hD hS
        refine lv_iinc (v := nI i + 5) (lv' := [(3, .int (nI i + 5)), (0, .ref b), (1, .ref (ax 0)), (2, .ref (a 0))]) hx hb d_law_880 hl (k := 3) rfl rfl (by decide) rfl (fun ls hl => ?_)
        refine lv_goto (tgt := 18) hx hb d_law_883 (by decide) ?_
        rw [show nI i + 5 = nI (i + 5) from q_add rfl rfl] at hl
        exact ih (i + 5) (by omega) (by omega) N lm om L M Bk Rt Z F Pt Y fm pi H locs hsim hP hD hS ls (lv_sub hl [1, 2, 3, 0] rfl)
      refine lv_aload_n hx hb d_law_26 rfl (lv_at hl 0 rfl) ?_
      refine lv_iload_n hx hb d_law_27 rfl (lv_at hl 3 rfl) ?_
      refine xsld hx hb hX hbl hbA hS i rfl (by omega) hLL d_law_28 ?_
      refine lv_bipush (v := 31) hx hb d_law_29 (by decide) ?_
      refine lv_iand hx hb d_law_31 ?_
      refine lv_topi (fun v ev => ?_)
      by_cases w0 : v = 0
      · refine lv_tableIn (off := 100) (tgt := 132) hx hb d_law_32 (by rw [w0]; decide) (by rw [w0]; decide) (by rw [w0]; decide) (by decide) ?_
        exact lc_mark hC hi hsim hP hD hS hl kk
      by_cases w1 : v = 1
      · refine lv_tableIn (off := 153) (tgt := 185) hx hb d_law_32 (by rw [w1]; decide) (by rw [w1]; decide) (by rw [w1]; decide) (by decide) ?_
        exact lc_read hC hi hsim hP hD hS hl kk
      by_cases w2 : v = 2
      · refine lv_tableIn (off := 196) (tgt := 228) hx hb d_law_32 (by rw [w2]; decide) (by rw [w2]; decide) (by rw [w2]; decide) (by decide) ?_
        exact lc_lose hC hi hsim hP hD hS hl kk
      by_cases w3 : v = 3
      · refine lv_tableIn (off := 219) (tgt := 251) hx hb d_law_32 (by rw [w3]; decide) (by rw [w3]; decide) (by rw [w3]; decide) (by decide) ?_
        exact lc_told hC hi hsim hP hD hS hl kk
      by_cases w4 : v = 4
      · refine lv_tableIn (off := 252) (tgt := 284) hx hb d_law_32 (by rw [w4]; decide) (by rw [w4]; decide) (by rw [w4]; decide) (by decide) ?_
        exact lc_count hC hi hsim hP hD hS hl kk
      by_cases w5 : v = 5
      · refine lv_tableIn (off := 275) (tgt := 307) hx hb d_law_32 (by rw [w5]; decide) (by rw [w5]; decide) (by rw [w5]; decide) (by decide) ?_
        exact lc_det hC hi hsim hP hD hS hl kk
      by_cases w6 : v = 6
      · refine lv_tableIn (off := 299) (tgt := 331) hx hb d_law_32 (by rw [w6]; decide) (by rw [w6]; decide) (by rw [w6]; decide) (by decide) ?_
        exact lc_fit hC hi hsim hP hD hS hl kk
      by_cases w7 : v = 7
      · refine lv_tableIn (off := 353) (tgt := 385) hx hb d_law_32 (by rw [w7]; decide) (by rw [w7]; decide) (by rw [w7]; decide) (by decide) ?_
        exact lc_rest hC hi hsim hP hD hS hl kk
      by_cases w8 : v = 8
      · refine lv_tableIn (off := 407) (tgt := 439) hx hb d_law_32 (by rw [w8]; decide) (by rw [w8]; decide) (by rw [w8]; decide) (by decide) ?_
        exact lc_spread hC hi hsim hP hD hS hl kk
      by_cases w9 : v = 9
      · refine lv_tableIn (off := 451) (tgt := 483) hx hb d_law_32 (by rw [w9]; decide) (by rw [w9]; decide) (by rw [w9]; decide) (by decide) ?_
        exact lc_judge hC hi hsim hP hD hS hl kk
      by_cases w10 : v = 10
      · refine lv_tableIn (off := 484) (tgt := 516) hx hb d_law_32 (by rw [w10]; decide) (by rw [w10]; decide) (by rw [w10]; decide) (by decide) ?_
        exact lc_plan hC hi hsim hP hD hS hl kk
      by_cases w11 : v = 11
      · refine lv_tableIn (off := 528) (tgt := 560) hx hb d_law_32 (by rw [w11]; decide) (by rw [w11]; decide) (by rw [w11]; decide) (by decide) ?_
        exact lc_lot hC hi hsim hP hD hS hl kk
      by_cases w12 : v = 12
      · refine lv_tableIn (off := 561) (tgt := 593) hx hb d_law_32 (by rw [w12]; decide) (by rw [w12]; decide) (by rw [w12]; decide) (by decide) ?_
        exact lc_back hC hi hsim hP hD hS hl kk
      by_cases w13 : v = 13
      · refine lv_tableIn (off := 594) (tgt := 626) hx hb d_law_32 (by rw [w13]; decide) (by rw [w13]; decide) (by rw [w13]; decide) (by decide) ?_
        exact lc_mend hC hi hsim hP hD hS hl kk
      by_cases w14 : v = 14
      · refine lv_tableIn (off := 617) (tgt := 649) hx hb d_law_32 (by rw [w14]; decide) (by rw [w14]; decide) (by rw [w14]; decide) (by decide) ?_
        exact lc_gain hC hi hsim hP hD hS hl kk
      by_cases w15 : v = 15
      · refine lv_tableIn (off := 640) (tgt := 672) hx hb d_law_32 (by rw [w15]; decide) (by rw [w15]; decide) (by rw [w15]; decide) (by decide) ?_
        exact lc_state hC hi hsim hP hD hS hl kk
      by_cases w16 : v = 16
      · refine lv_tableIn (off := 673) (tgt := 705) hx hb d_law_32 (by rw [w16]; decide) (by rw [w16]; decide) (by rw [w16]; decide) (by decide) ?_
        exact lc_advice hC hi hsim hP hD hS hl kk
      by_cases w17 : v = 17
      · refine lv_tableIn (off := 696) (tgt := 728) hx hb d_law_32 (by rw [w17]; decide) (by rw [w17]; decide) (by rw [w17]; decide) (by decide) ?_
        exact lc_offset hC hi hsim hP hD hS hl kk
      by_cases w18 : v = 18
      · refine lv_tableIn (off := 739) (tgt := 771) hx hb d_law_32 (by rw [w18]; decide) (by rw [w18]; decide) (by rw [w18]; decide) (by decide) ?_
        exact lc_rule hC hi hsim hP hD hS hl kk
      by_cases w19 : v = 19
      · refine lv_tableIn (off := 772) (tgt := 804) hx hb d_law_32 (by rw [w19]; decide) (by rw [w19]; decide) (by rw [w19]; decide) (by decide) ?_
        exact lc_route hC hi hsim hP hD hS hl kk
      by_cases w20 : v = 20
      · refine lv_tableIn (off := 805) (tgt := 837) hx hb d_law_32 (by rw [w20]; decide) (by rw [w20]; decide) (by rw [w20]; decide) (by decide) ?_
        exact lc_bad hC hi hsim hP hD hS hl kk
      have hne : ∀ k : Nat, k < 21 → ¬ v = nI k := fun k hk => by
        rcases (show k = 0 ∨ k = 1 ∨ k = 2 ∨ k = 3 ∨ k = 4 ∨ k = 5 ∨ k = 6 ∨ k = 7 ∨ k = 8 ∨ k = 9 ∨ k = 10 ∨ k = 11 ∨ k = 12 ∨ k = 13 ∨ k = 14 ∨ k = 15 ∨ k = 16 ∨ k = 17 ∨ k = 18 ∨ k = 19 ∨ k = 20 by omega) with rfl | rfl | rfl | rfl | rfl | rfl | rfl | rfl | rfl | rfl | rfl | rfl | rfl | rfl | rfl | rfl | rfl | rfl | rfl | rfl | rfl
        · exact w0
        · exact w1
        · exact w2
        · exact w3
        · exact w4
        · exact w5
        · exact w6
        · exact w7
        · exact w8
        · exact w9
        · exact w10
        · exact w11
        · exact w12
        · exact w13
        · exact w14
        · exact w15
        · exact w16
        · exact w17
        · exact w18
        · exact w19
        · exact w20
      exact lv_tableOut (tgt := 880) hx hb d_law_32 (by have := q_sw 21 hne; omega) (by decide) (kk _ _ _ _ _ _ _ _ _ _ _ _ _ _ _ hsim hP hD hS)
