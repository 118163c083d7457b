/-! constructors: what they need beside -/
theorem nmI : (FieldType.array .int).toString = "[" ++ FieldType.int.toString := by decide +kernel
theorem nmJ : (FieldType.array .long).toString = "[" ++ FieldType.long.toString := by decide +kernel
theorem nmII : "[" ++ (FieldType.array .int).toString = "[[I" := by decide +kernel
theorem nmJJ : "[" ++ (FieldType.array .long).toString = "[[J" := by decide +kernel
def aov (U : State) : Prop := (Cond.arrayOver (.array .int)).before #[] U = true ∧ (Cond.arrayOver (.array .long)).before #[] U = true
theorem aov.moved {u U : State} (hvm : u.vm.Alike U.vm) (h : aov u) : aov U := ⟨Jvm.Stand.arrayOver_alikeB hvm h.1, Jvm.Stand.arrayOver_alikeB hvm h.2⟩
theorem aov.useI {A : Array Value} {U : State} (h : aov U) : (Cond.arrayOver (.array .int)).before A U = true := Jvm.Stand.arrayOver_alikeB (Vm.Alike.refl U.vm) h.1
theorem aov.useJ {A : Array Value} {U : State} (h : aov U) : (Cond.arrayOver (.array .long)).before A U = true := Jvm.Stand.arrayOver_alikeB (Vm.Alike.refl U.vm) h.2
/-- a maker's start -/
def Bn (D : va_G) (C : Nat → ClassId) (w : va_W) (sz : Nat) (U : State) : Prop := Bw D C w sz U ∧ aov U
theorem Bn.blind {D : va_G} {C : Nat → ClassId} {w : va_W} {sz : Nat} {av : List Value} : FrameBlind (va_Pc av (Bn D C w sz)) := fun a U g mk q => by
  obtain ⟨q0, ⟨q1, qP, qK, qN, qD⟩, qO⟩ := q
  exact ⟨q0, ⟨q1, qP, va_K.moved (u := U) (U := U.calling g mk a) (Vm.Alike.refl U.vm) qK, nw.same (u := U) rfl qN, qD⟩, aov.moved (u := U) (U := U.calling g mk a) (Vm.Alike.refl U.vm) qO⟩
abbrev rmC (d mc ms : Nat) : Room := { frames := d, cells := mc, slots := ms, locals := 40 * d }
/-- a maker's contract: the addresses come with the world -/
abbrev Nv (l : Launch) (D : va_G) (C : Nat → ClassId) (y : MethodName) (cc : ByteArray) (n d : Nat) (h0 : Nat) (w : va_W) {S : Type} (z : S → Nat) (w1 : S → va_W) (sz mc ms : Nat) : Prop :=
  Met l y (wm y cc n none) (rmC d mc ms) (va_Pc [.ref h0] (Bn D C w sz)) (va_Qv (fun a : S => z a = h0) (fun (a : S) (t : State) => va_P D vwCl (w1 a) t.heap ∧ va_D (va_A w sz) (w1 a)) (va_A w sz)) mc ms (va_A w sz)
section XI
variable {s : State} {H : Heap} {D : va_G} {C : Nat → ClassId} {w : va_W} {A : Nat → Prop} {As : List Value} {b : Nat}
theorem pIw (hP : va_P D vwCl w H) (hD : va_D A w) (hK : va_K D vwCl (tyv C) s) (hN : nw s) (hO : aov s) : PreS s H (va_Pc As (Bn D C w H.size)) As :=
  ⟨Bn.blind, fun U hU hW => ⟨rfl, ⟨by rw [hU], by rw [hU]; exact hP, va_K.moved hW.alike hK, nw.warm hW hN, hD.weaken (fun _ _ _ _ => trivial)⟩, aov.moved hW.alike hO⟩⟩
end XI
section XN
variable {p : Program} {l : Launch} {e : Env} {R : Room} {s : State} {m : MethodId} {args : Array Value} {below : List Frame} {meth : Method} {c : Code} {H : Heap} {locs : List Loc} {cells slots : Nat} {Q : State → Prop}
variable {y : MethodName} {bytes cc : ByteArray} {maxL nL mc ms index n : Nat} {rm : Room} {Pc : Array Value → State → Prop} {Qc : Array Value → State → Outcome → State → Prop} {free : Addr → Prop} {own host : String} {b : Addr} {As rest : List Value} {pc : Nat} {ls : Array Slot} {st0 : List Value}
variable {D : va_G} {A : Nat → Prop} {C : Nat → ClassId} {ws : va_W} {H0 : Heap}
theorem rIN (S : CallFix p m c cc nL s args WA own) (hM : Met l y (wm y bytes maxL none) rm Pc Qc mc ms free) (hcd : Cond.code y bytes maxL none ∈ WA) (hl : va_Nw (.methodLinkNest own index y host) s) (him : Cond.instanceMethod y ∈ WA) (hini : Cond.initialized y.cls ∈ WA) (hy : y.name = "<init>")
    (hd : y.cls ≠ "java/lang/invoke/MethodHandle" ∧ y.cls ≠ "java/lang/invoke/VarHandle" ∧ (parseMethodDescriptor y.desc).map (fun d => d.parameters.length) = some n) (hR : rm.frames + 1 ≤ R.frames ∧ 8 + (maxL + 11) + rm.locals ≤ R.locals) (hp : PreS s H Pc (.ref b :: As))
    (hsize : ls.size = nL) (hstack : st0 = As.reverse ++ .ref b :: rest) (hWs : (rest.map fun v => v.category).sum ≤ 8) (hdg : decode cc pc = .ok (.invokespecial index, 3)) (hf : cells + mc ≤ R.cells ∧ slots + ms ≤ R.slots) (hrc : rm.cells = mc) (hrs : rm.slots = ms) (hn : As.length = n) :
    va_Run p l e R s m args below meth c H locs cells slots mc ms (F0 m pc ls st0) rest (Qc (Value.ref b :: As).toArray) free :=
  va_runIN S hM ⟨⟨⟨hrc, hrs, hR.1, hR.2, pay_in S.2.2.2.2 (wm_good hcd), List.mem_cons_self⟩, S.2.2.2.2 _ hcd, S.2.2.2.2 _ hini, ⟨hd.1, hd.2.1⟩, hd_of hd.2.2, va_Nw.use rfl hl⟩, hy, S.2.2.2.2 _ him⟩ hp rfl hn hsize hstack (lv_room hWs) hdg hf
theorem xnv {S : Type} {z : S → Nat} {w1 : S → va_W} {wc wr : va_W} {h0 : Nat} {av : Array Value} (hr : va_Run p l e R s m args below meth c H locs cells slots mc ms (F0 m pc ls st0) rest (va_Qv (fun a : S => z a = h0) (fun (a : S) (t : State) => va_P D vwCl (w1 a) t.heap ∧ va_D (va_A wc H.size) (w1 a)) (va_A wc H.size) av) (va_A wc H.size)) (hP : va_P D vwCl ws H) (hD : va_D A ws) (hS : va_S A H0 H locs) (hA : ∀ q, H0.size ≤ q → A q) (isC isR : List Nat) (hC : isC.map (fun i => ws[i]?) = wc.map some) (hR : isR.map (fun i => ws[i]?) = wr.map some) (hn : va_nd isR = true) (hdis : ∀ i ∈ isR, i ∉ isC)
    (kk : ∀ (a : S) (H1 : Heap) (locs1 : List Loc), z a = h0 → va_P D vwCl (wr ++ w1 a) H1 → va_D A (wr ++ w1 a) → va_S A H0 H1 locs1 → W p l e R s m args below meth c H1 locs1 (cells + mc) (slots + ms) Q (F0 m (pc + 3) ls rest)) : W p l e R s m args below meth c H locs cells slots Q (F0 m pc ls st0) := by
  have hF := va_free (wc := wc) hD hS hA isC hC
  refine va_callv hr hS (fun q _ h => hF q h) hF (fun a t H1 locs1 ht _ hw hB _ hk hS1 => ?_)
  obtain ⟨hP1, hD1⟩ := hB
  rw [ht] at hP1
  obtain ⟨hP2, hD2⟩ := va_join hP hD isC isR hC hR hn hdis hk hF hP1 hD1
  exact kk a H1 locs1 hw hP2 hD2 hS1
/-- a new row, of a class that is known -/
theorem xnewI (hx : p.tables.exec = Jvm.exec) (hb : c.code = cc) (harr : (Cond.arrayClass .int).before args s = true) (hK : va_K D vwCl (tyv C) s) (hP : va_P D vwCl ws H) (hD : va_D A ws) (hS : va_S A H0 H locs) (hA : ∀ q, H0.size ≤ q → A q)
    {k : Int32} (N' : Nat) (hk : k = nI N') (hN : N' ≤ 300) (hcells : cells + 1 ≤ R.cells) (hslots : slots + N' ≤ R.slots) (hdg : decode cc pc = .ok (.newarray .int, 2))
    (kk : ∀ (q : Nat) (H1 : Heap), va_P D vwCl (ws ++ [(q, eI C N' (fun _ => 0))]) H1 → va_D A (ws ++ [(q, eI C N' (fun _ => 0))]) → va_S A H0 H1 locs → W p l e R s m args below meth c H1 locs (cells + 1) (slots + N') Q (F0 m (pc + 2) ls (.ref q :: rest))) : W p l e R s m args below meth c H locs cells slots Q (F0 m pc ls (.int k :: rest)) := by
  subst hk
  refine va_newa (atype := .int) (ty := .int) (N' := N') (a0 := (N', .inl (fun _ => 0))) hx hb harr rfl hK hP hD hS hA (fun _ => rfl) (nI_pos (by omega)) (nI_clamp (by omega)) (by show N' * 4 ≤ _; omega) hcells hslots hdg (fun q cA H1 hK1 hP1 hD1 hS1 => ?_)
  have e1 : s.vm.findClass ("[" ++ FieldType.int.toString) = some cA := (hK1.2 5 _ rfl).2
  have e2 : s.vm.findClass ("[" ++ FieldType.int.toString) = some (C 0) := (hK.2 0 _ rfl).2
  have e3 : cA = C 0 := Option.some.inj (e1.symm.trans e2)
  subst e3
  exact kk q H1 hP1 hD1 hS1
theorem xnewZ (hx : p.tables.exec = Jvm.exec) (hb : c.code = cc) (harr : (Cond.arrayClass .boolean).before args s = true) (hK : va_K D vwCl (tyv C) s) (hP : va_P D vwCl ws H) (hD : va_D A ws) (hS : va_S A H0 H locs) (hA : ∀ q, H0.size ≤ q → A q)
    {k : Int32} (N' : Nat) (hk : k = nI N') (hN : N' ≤ 300) (hcells : cells + 1 ≤ R.cells) (hslots : slots + N' ≤ R.slots) (hdg : decode cc pc = .ok (.newarray .boolean, 2))
    (kk : ∀ (q : Nat) (H1 : Heap), va_P D vwCl (ws ++ [(q, eZ C N' (fun _ => 0))]) H1 → va_D A (ws ++ [(q, eZ C N' (fun _ => 0))]) → va_S A H0 H1 locs → W p l e R s m args below meth c H1 locs (cells + 1) (slots + N') Q (F0 m (pc + 2) ls (.ref q :: rest))) : W p l e R s m args below meth c H locs cells slots Q (F0 m pc ls (.int k :: rest)) := by
  subst hk
  refine va_newa (atype := .boolean) (ty := .boolean) (N' := N') (a0 := (N', .inl (fun _ => 0))) hx hb harr rfl hK hP hD hS hA (fun _ => rfl) (nI_pos (by omega)) (nI_clamp (by omega)) (by show N' * 1 ≤ _; omega) hcells hslots hdg (fun q cA H1 hK1 hP1 hD1 hS1 => ?_)
  have e1 : s.vm.findClass ("[" ++ FieldType.boolean.toString) = some cA := (hK1.2 5 _ rfl).2
  have e2 : s.vm.findClass ("[" ++ FieldType.boolean.toString) = some (C 2) := (hK.2 2 _ rfl).2
  have e3 : cA = C 2 := Option.some.inj (e1.symm.trans e2)
  subst e3
  exact kk q H1 hP1 hD1 hS1
theorem xnewJ (hx : p.tables.exec = Jvm.exec) (hb : c.code = cc) (harr : (Cond.arrayClass .long).before args s = true) (hK : va_K D vwCl (tyv C) s) (hP : va_P D vwCl ws H) (hD : va_D A ws) (hS : va_S A H0 H locs) (hA : ∀ q, H0.size ≤ q → A q)
    {k : Int32} (N' : Nat) (hk : k = nI N') (hN : N' ≤ 300) (hcells : cells + 1 ≤ R.cells) (hslots : slots + N' ≤ R.slots) (hdg : decode cc pc = .ok (.newarray .long, 2))
    (kk : ∀ (q : Nat) (H1 : Heap), va_P D vwCl (ws ++ [(q, eJ C N' (fun _ => 0))]) H1 → va_D A (ws ++ [(q, eJ C N' (fun _ => 0))]) → va_S A H0 H1 locs → W p l e R s m args below meth c H1 locs (cells + 1) (slots + N') Q (F0 m (pc + 2) ls (.ref q :: rest))) : W p l e R s m args below meth c H locs cells slots Q (F0 m pc ls (.int k :: rest)) := by
  subst hk
  refine va_newa (atype := .long) (ty := .long) (N' := N') (a0 := (N', .inr (.inl (fun _ => 0)))) hx hb harr rfl hK hP hD hS hA (fun _ => rfl) (nI_pos (by omega)) (nI_clamp (by omega)) (by show N' * 8 ≤ _; omega) hcells hslots hdg (fun q cA H1 hK1 hP1 hD1 hS1 => ?_)
  have e1 : s.vm.findClass ("[" ++ FieldType.long.toString) = some cA := (hK1.2 5 _ rfl).2
  have e2 : s.vm.findClass ("[" ++ FieldType.long.toString) = some (C 1) := (hK.2 1 _ rfl).2
  have e3 : cA = C 1 := Option.some.inj (e1.symm.trans e2)
  subst e3
  exact kk q H1 hP1 hD1 hS1
theorem vr_outer (c : ClassId) (N h0 : Nat) : ∀ i : Nat, Jvm.Free.Multi.outerC c N h0 i = arrV c N (fun j => va_rf (if j < i then some (h0 + 1 + j) else none))
  | 0 => by
    show ({ cls := c, slots := Array.replicate N .null, vm := .none } : Cell) = _
    rw [arrV_new]
    refine congrArg (arrV c N) (funext fun j => ?_)
    simp [va_rf]
  | i + 1 => by
    show (Jvm.Free.Multi.outerC c N h0 i).setSlot i (.ref (h0 + 1 + i)) = _
    rw [vr_outer c N h0 i, arrV_store]
    refine congrArg (arrV c N) (funext fun j => ?_)
    by_cases e : j = i
    · subst e
      simp [updV, va_rf]
    · by_cases h : j < i
      · simp [updV, e, h, Nat.lt_succ_of_lt h]
      · simp [updV, e, h, show ¬ j < i + 1 by omega]
theorem rr_if (q N : Nat) : (fun i => if i < N then some (q + 1 + i) else none) = rr (fun i => q + 1 + i) 0 N := by
  funext j
  unfold rr
  by_cases h : j < N
  · rw [if_pos h, show Nat.blt j N = true from by rw [Nat.blt_eq]; exact h]; show some (q + 1 + j) = some (q + 1 + (0 + j)); rw [Nat.zero_add]
  · rw [if_neg h, show Nat.blt j N = false from by rw [← Bool.not_eq_true, Nat.blt_eq]; exact h]; rfl
theorem rr_eq {a a' : Nat → Nat} {b b' n : Nat} (h : ∀ j, j < n → a (b + j) = a' (b' + j)) : rr a b n = rr a' b' n := by
  funext j
  by_cases q : j < n
  · rw [rr_lt q, rr_lt q, h j q]
  · unfold rr
    rw [show Nat.blt j n = false from by rw [← Bool.not_eq_true, Nat.blt_eq]; exact q]
    rfl
/-- rows of rows -/
theorem xmna (hx : p.tables.exec = Jvm.exec) (hb : c.code = cc) {ty : FieldType} {cy cA0 : ClassId} (hown : s.vm.findClass own = some m.cls) (hclink : (Cond.classLink own index ("[" ++ (FieldType.array ty).toString)).before args s = true) (hover : (Cond.arrayOver (.array ty)).before args s = true) (harr : (Cond.arrayClass ty).before args s = true) (hcy : s.vm.findClass (FieldType.array ty).toString = some cy) (hcA : s.vm.findClass ("[" ++ (FieldType.array ty).toString) = some cA0)
    (hP : va_P D vwCl ws H) (hD : va_D A ws) (hS : va_S A H0 H locs) (hA : ∀ q, H0.size ≤ q → A q) {n k : Int32} (N' K' : Nat) {z : vp_A} (hn : n = nI N') (hk : k = nI K') (hN : N' ≤ 300) (hKk : K' ≤ 300)
    (hb2 : K' * componentBytes ty ≤ 536870912) (hdf : fits ty (defaultValue ty) = true) (hdd : (defaultValue ty).isDefault = true) (hcells : cells + (1 + N') ≤ R.cells) (hslots : slots + (N' + N' * K') ≤ R.slots) (hz : ∀ c : ClassId, Jvm.Free.Multi.innerC c K' (defaultValue ty) = vp_cell c z) (hdg : decode cc pc = .ok (.multianewarray index 2, 4))
    (kk : ∀ (q : Nat) (H1 : Heap), va_P D vwCl ((ws ++ [(q, .inl (cA0, N', .inr (.inr (.inr (.inr (rr (fun i => q + 1 + i) 0 N'))))))]) ++ (List.range N').map (fun i => (q + 1 + i, .inl (cy, z)))) H1 → va_D A ((ws ++ [(q, .inl (cA0, N', .inr (.inr (.inr (.inr (rr (fun i => q + 1 + i) 0 N'))))))]) ++ (List.range N').map (fun i => (q + 1 + i, .inl (cy, z)))) → va_S A H0 H1 locs →
      W p l e R s m args below meth c H1 locs (cells + 1 + N') (slots + N' + N' * K') Q (F0 m (pc + 4) ls (.ref q :: rest))) : W p l e R s m args below meth c H locs cells slots Q (F0 m pc ls (.int k :: .int n :: rest)) := by
  subst hn
  subst hk
  have cN : (nI N').toNatClampNeg = N' := nI_clamp (by omega)
  have cK : (nI K').toNatClampNeg = K' := nI_clamp (by omega)
  intro T hT Xs
  obtain ⟨vm₁, cA, comp, -, fA, fC, hO, -, X', step⟩ := Xs.multianewarray2F hx hown hclink hover harr (g := F0 m pc ls (.int (nI K') :: .int (nI N') :: rest)) rfl (by rw [hb]; exact hdg) rfl (nI_pos (by omega)) (nI_pos (by omega)) (by rw [cN]; omega) (by rw [cK]; exact hb2) (by rw [cK]; omega) hdf hdd (by rw [cN]; exact hcells) (by rw [cN, cK]; exact hslots)
  rw [cN, cK] at X' step
  have ec : some cy = some comp := hcy.symm.trans fC
  cases ec
  have eA : some cA0 = some cA := hcA.symm.trans fA
  cases eA
  generalize hF : Jvm.Free.Multi.fill (T.setVm vm₁) cA0 cy N' K' (defaultValue ty) N' = F at X' step
  have hTh : (T.setVm vm₁).heap = H := hT
  obtain ⟨f1, f2, -, -⟩ := Jvm.Free.Multi.fill_facts (T.setVm vm₁) cA0 cy N' K' (defaultValue ty) N'
  rw [hF, hTh] at f1 f2
  have hold : ∀ x : Nat, x < H.size → F.heap[x]? = H[x]? := fun x hx => by
    have := Jvm.Free.Multi.fill_old (T.setVm vm₁) cA0 cy N' K' (defaultValue ty) (a := x) (by rw [hTh]; exact hx) N'
    rw [hF, hTh] at this
    exact this
  have hrow : ∀ j : Nat, j < N' → F.heap[H.size + 1 + j]? = some (vp_cell cy z) := fun j hj => by
    have := Jvm.Free.Multi.fill_inner (T.setVm vm₁) cA0 cy N' K' (defaultValue ty) N' j hj
    rw [hF, hTh, hz] at this
    exact this
  have hout : Jvm.Free.Multi.outerC cA0 N' H.size N' = vp_cell cA0 (N', .inr (.inr (.inr (.inr (rr (fun i => H.size + 1 + i) 0 N'))))) := by
    rw [vp_cell_q, ← rr_if]
    exact vr_outer cA0 N' H.size N'
  rw [hout] at f2
  have hP0 : va_P D vwCl ws F.heap := hP.kept (fun k9 x hx => hold x.1 ((hP k9 x hx).lt))
  have hP1 : va_P D vwCl (ws ++ [(H.size, .inl (cA0, N', .inr (.inr (.inr (.inr (rr (fun i => H.size + 1 + i) 0 N'))))))]) F.heap := hP0.app (fun k9 x hx => by
    have h0 : k9 < 1 := (List.getElem?_eq_some_iff.mp hx).1
    rw [show k9 = 0 by omega] at hx
    cases hx
    exact f2)
  have hP2 : va_P D vwCl ((ws ++ [(H.size, .inl (cA0, N', .inr (.inr (.inr (.inr (rr (fun i => H.size + 1 + i) 0 N'))))))]) ++ (List.range N').map (fun i => (H.size + 1 + i, .inl (cy, z)))) F.heap := hP1.app (fun k9 x hx => by
    obtain ⟨i, hi, rfl⟩ := List.mem_map.mp (List.mem_of_getElem? hx)
    exact hrow i (List.mem_range.mp hi))
  have hD2 : va_D A ((ws ++ [(H.size, .inl (cA0, N', .inr (.inr (.inr (.inr (rr (fun i => H.size + 1 + i) 0 N'))))))]) ++ (List.range N').map (fun i => (H.size + 1 + i, .inl (cy, z)))) := by
    have hD1 := hD.push (e := .inl (cA0, N', .inr (.inr (.inr (.inr (rr (fun i => H.size + 1 + i) 0 N')))))) hP rfl (hA _ hS.1)
    generalize hW1 : ws ++ [(H.size, .inl (cA0, N', .inr (.inr (.inr (.inr (rr (fun i => H.size + 1 + i) 0 N'))))))] = W1 at hD1 hP1 ⊢
    have hle : ∀ (k9 : Nat) (x : Nat × va_E), W1[k9]? = some x → x.1 ≤ H.size := fun k9 x hx => by
      rw [← hW1] at hx
      by_cases hl : k9 < ws.length
      · rw [List.getElem?_append_left hl] at hx
        exact Nat.le_of_lt ((hP k9 x hx).lt)
      · rw [List.getElem?_append_right (by omega)] at hx
        have h0 : k9 - ws.length < 1 := (List.getElem?_eq_some_iff.mp hx).1
        rw [show k9 - ws.length = 0 by omega] at hx
        cases hx
        exact Nat.le_refl _
    have hr : ∀ (k9 : Nat) (x : Nat × va_E), ((List.range N').map (fun i => ((H.size + 1 + i, .inl (cy, z)) : Nat × va_E)))[k9]? = some x → x.1 = H.size + 1 + k9 := fun k9 x hx => by
      rw [List.getElem?_map] at hx
      by_cases h9 : k9 < N'
      · rw [List.getElem?_range h9] at hx
        cases hx
        rfl
      · have hn0 : (List.range N')[k9]? = none := List.getElem?_eq_none (by rw [List.length_range]; omega)
        rw [hn0] at hx
        cases hx
    refine ⟨fun i j x y hi hj hxy => ?_, fun k9 x hx => ?_⟩
    · by_cases h1 : i < W1.length <;> by_cases h2 : j < W1.length
      · rw [List.getElem?_append_left h1] at hi
        rw [List.getElem?_append_left h2] at hj
        exact hD1.1 i j x y hi hj hxy
      · rw [List.getElem?_append_left h1] at hi
        rw [List.getElem?_append_right (by omega)] at hj
        have := hle _ _ hi
        have := hr _ _ hj
        omega
      · rw [List.getElem?_append_right (by omega)] at hi
        rw [List.getElem?_append_left h2] at hj
        have := hle _ _ hj
        have := hr _ _ hi
        omega
      · rw [List.getElem?_append_right (by omega)] at hi hj
        have := hr _ _ hi
        have := hr _ _ hj
        omega
    · by_cases h1 : k9 < W1.length
      · rw [List.getElem?_append_left h1] at hx
        exact hD1.2 k9 x hx
      · rw [List.getElem?_append_right (by omega)] at hx
        have := hr _ _ hx
        exact hA _ (by have := hS.1; omega)
  obtain ⟨t, a1, b1⟩ := kk H.size F.heap hP2 hD2 ⟨by rw [f1]; have := hS.1; omega, fun x h1 h2 => (hold x (Nat.lt_of_lt_of_le h1 hS.1)).trans (hS.2.1 x h1 h2), hS.2.2⟩ F rfl X'
  refine ⟨t, step t ?_, b1⟩
  have e : T.heap.size = H.size := by rw [hT]
  rw [e]
  exact a1
theorem xmnaI (hx : p.tables.exec = Jvm.exec) (hb : c.code = cc) (hown : s.vm.findClass own = some m.cls) (hclink : (Cond.classLink own index ("[" ++ (FieldType.array .int).toString)).before args s = true) (hover : aov s) (harr : (Cond.arrayClass .int).before args s = true) (hK : va_K D vwCl (tyv C) s)
    (hP : va_P D vwCl ws H) (hD : va_D A ws) (hS : va_S A H0 H locs) (hA : ∀ q, H0.size ≤ q → A q) {n k : Int32} (N' K' : Nat) (hn : n = nI N') (hk : k = nI K') (hN : N' ≤ 300) (hKk : K' ≤ 300)
    (hcells : cells + (1 + N') ≤ R.cells) (hslots : slots + (N' + N' * K') ≤ R.slots) (hdg : decode cc pc = .ok (.multianewarray index 2, 4))
    (kk : ∀ (q : Nat) (H1 : Heap), va_P D vwCl ((ws ++ [(q, eII C N' (rr (fun i => q + 1 + i) 0 N'))]) ++ (List.range N').map (fun i => (q + 1 + i, eI C K' (fun _ => 0)))) H1 → va_D A ((ws ++ [(q, eII C N' (rr (fun i => q + 1 + i) 0 N'))]) ++ (List.range N').map (fun i => (q + 1 + i, eI C K' (fun _ => 0)))) → va_S A H0 H1 locs →
      W p l e R s m args below meth c H1 locs (cells + 1 + N') (slots + N' + N' * K') Q (F0 m (pc + 4) ls (.ref q :: rest))) : W p l e R s m args below meth c H locs cells slots Q (F0 m pc ls (.int k :: .int n :: rest)) :=
  xmna (ty := .int) (cy := C 0) (cA0 := C 3) (z := (K', .inl (fun _ => 0))) hx hb hown hclink hover.useI harr (by rw [nmI]; exact (hK.2 0 _ rfl).2) (hK.2 3 _ rfl).2 hP hD hS hA N' K' hn hk hN hKk (by show K' * 4 ≤ _; omega) rfl rfl hcells hslots (fun c => by
    show ({ cls := c, slots := Array.replicate K' (.int 0), vm := .none } : Cell) = arrV c K' (fun _ => .int 0)
    rw [arrV_new]) hdg kk
theorem xmnaJ (hx : p.tables.exec = Jvm.exec) (hb : c.code = cc) (hown : s.vm.findClass own = some m.cls) (hclink : (Cond.classLink own index ("[" ++ (FieldType.array .long).toString)).before args s = true) (hover : aov s) (harr : (Cond.arrayClass .long).before args s = true) (hK : va_K D vwCl (tyv C) s)
    (hP : va_P D vwCl ws H) (hD : va_D A ws) (hS : va_S A H0 H locs) (hA : ∀ q, H0.size ≤ q → A q) {n k : Int32} (N' K' : Nat) (hn : n = nI N') (hk : k = nI K') (hN : N' ≤ 300) (hKk : K' ≤ 300)
    (hcells : cells + (1 + N') ≤ R.cells) (hslots : slots + (N' + N' * K') ≤ R.slots) (hdg : decode cc pc = .ok (.multianewarray index 2, 4))
    (kk : ∀ (q : Nat) (H1 : Heap), va_P D vwCl ((ws ++ [(q, eJJ C N' (rr (fun i => q + 1 + i) 0 N'))]) ++ (List.range N').map (fun i => (q + 1 + i, eJ C K' (fun _ => 0)))) H1 → va_D A ((ws ++ [(q, eJJ C N' (rr (fun i => q + 1 + i) 0 N'))]) ++ (List.range N').map (fun i => (q + 1 + i, eJ C K' (fun _ => 0)))) → va_S A H0 H1 locs →
      W p l e R s m args below meth c H1 locs (cells + 1 + N') (slots + N' + N' * K') Q (F0 m (pc + 4) ls (.ref q :: rest))) : W p l e R s m args below meth c H locs cells slots Q (F0 m pc ls (.int k :: .int n :: rest)) :=
  xmna (ty := .long) (cy := C 1) (cA0 := C 4) (z := (K', .inr (.inl (fun _ => 0)))) hx hb hown hclink hover.useJ harr (by rw [nmJ]; exact (hK.2 1 _ rfl).2) (hK.2 4 _ rfl).2 hP hD hS hA N' K' hn hk hN hKk (by show K' * 8 ≤ _; omega) rfl rfl hcells hslots (fun c => by
    show ({ cls := c, slots := Array.replicate K' (.long 0), vm := .none } : Cell) = arrV c K' (fun _ => .long 0)
    rw [arrV_new]) hdg kk
end XN
