section XI2
variable {p : Program} {l : Launch} {e : Env} {R : Room} {s : State} {m : MethodId} {args : Array Value} {below : List Frame} {meth : Method} {c : Code} {H : Heap} {locs : List Loc} {cells slots : Nat}
variable {y : MethodName} {bytes cc : ByteArray} {maxL nL mc ms index n : Nat} {rm : Room} {Pc : Array Value → State → Prop} {Qc : Array Value → State → Outcome → State → Prop} {free : Addr → Prop} {own : String} {b : Addr} {As rest : List Value} {pc : Nat} {ls : Array Slot} {st0 : List Value}
theorem rI (S : CallFix p m c cc nL s args WA own) (hM : Met l y (wm y bytes maxL none) rm Pc Qc mc ms free) (hcd : Cond.code y bytes maxL none ∈ WA) (hl : Cond.methodLink own index y ∈ WA) (him : Cond.instanceMethod y ∈ WA) (hini : Cond.initialized y.cls ∈ WA) (hy : y.name = "<init>")
    (hd : y.cls ≠ "java/lang/invoke/MethodHandle" ∧ y.cls ≠ "java/lang/invoke/VarHandle" ∧ (parseMethodDescriptor y.desc).map (fun d => d.parameters.length) = some n) (hR : rm.frames + 1 ≤ R.frames ∧ 8 + (maxL + 11) + rm.locals ≤ R.locals) (hp : PreS s H Pc (.ref b :: As))
    (hsize : ls.size = nL) (hstack : st0 = As.reverse ++ .ref b :: rest) (hWs : (rest.map fun v => v.category).sum ≤ 8) (hdg : decode cc pc = .ok (.invokespecial index, 3)) (hf : cells + mc ≤ R.cells ∧ slots + ms ≤ R.slots) (hrc : rm.cells = mc) (hrs : rm.slots = ms) (hn : As.length = n) :
    va_Run p l e R s m args below meth c H locs cells slots mc ms (F0 m pc ls st0) rest (Qc (Value.ref b :: As).toArray) free :=
  va_runI S hM ⟨⟨hrc, hrs, hR.1, hR.2, pay_in S.2.2.2.2 (wm_good hcd), List.mem_cons_self, S.2.2.2.2 _ hcd, S.2.2.2.2 _ hini, ⟨hd.1, hd.2.1⟩, hd_of hd.2.2, S.2.2.2.2 _ hl⟩, hy, S.2.2.2.2 _ him⟩ hp rfl hn hsize hstack (lv_room hWs) hdg hf
end XI2
theorem nw_of {A : Array Value} {U : State} (h : ∀ w ∈ tables_1, w.before A U = true) : nw U := by
  intro w hw hn
  have h1 := h w hw
  cases w <;> first | (simp [nestW] at hn; done) | (exact va_Nw.of rfl h1)
