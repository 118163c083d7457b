theorem q_model {model : Int32} (h : ¬ f7_isModel model = 0) : model = 0 ∨ model = 1 ∨ model = 2 := by
  obtain ⟨k, hk, e⟩ := q_inC (n := 3) rfl (by decide) h
  subst e
  rcases (show k = 0 ∨ k = 1 ∨ k = 2 by omega) with rfl | rfl | rfl
  · exact Or.inl rfl
  · exact Or.inr (Or.inl rfl)
  · exact Or.inr (Or.inr rfl)
theorem q_limit {x : Int32} (h : ¬ f7_in x.toInt64 1 999 = 0) : 1 ≤ x.toInt ∧ x.toInt ≤ 999 := by
  rw [q_in, Int32.toInt_toInt64, show (1 : Int64).toInt = 1 from rfl, show (999 : Int64).toInt = 999 from rfl] at h
  exact h
def jsL (row : Nat → Int32) : Nat → Nat → Int32 → Int32
  | 0, _, x => x
  | n + 1, k, x => jsL row n (k + 1) (x ||| (if row k = 0 then (1 : Int32) <<< (nI k &&& 31) else 0))
def jlL (V : Nat → Int64) (ld : Int64) : Nat → Nat → Int32 → Int32
  | 0, _, b => b
  | n + 1, k, b => jlL V ld n (k + 1) (if V k ≤ ld then b else if b < 0 then nI k else if V k ≤ V (ix b) then b else nI k)
def joL (all set : Int32) : Nat → Nat → (Nat → Int32) → Nat → Int32
  | 0, _, O => O
  | n + 1, k, O => joL all set n (k + 1) (upd O k (if ((all >>> (nI k &&& 31)) &&& 1) = 1 then (if ((set >>> (nI k &&& 31)) &&& 1) = 0 then 1 else 0) else 0))
def juW (pl rd : Nat → Int32) (model : Int32) (nt N : Nat) (set : Int32) (Y : Nat → Nat → Int64) : Nat → Nat → Int64 := f7_findWorst pl rd Y model set nt N
theorem ctm_drop {q j : Nat} (h : q.testBit j = true) : ∀ n, n ≤ 12 → ctm (fun i => (adf q (2 ^ j)).testBit i) n + (if j < n then 1 else 0) = ctm (fun i => q.testBit i) n
  | 0, _ => by simp [ctm]
  | n + 1, hn => by
    have ih := ctm_drop h n (by omega)
    rw [ctm, ctm]
    have hb : (adf q (2 ^ j)).testBit n = (q.testBit n && !decide (j = n)) := by rw [adf_tb _ _ _ (by omega), Nat.testBit_two_pow]
    rw [hb]
    by_cases e : j = n
    · subst e
      rw [if_neg (show ¬ j < j by omega)] at ih
      rw [if_pos (show j < j + 1 by omega), h]
      simp
      omega
    · by_cases e2 : j < n
      · rw [if_pos e2] at ih
        rw [if_pos (show j < n + 1 by omega)]
        simp [e]
        omega
      · rw [if_neg e2] at ih
        rw [if_neg (show ¬ j < n + 1 by omega)]
        simp [e]
        omega
theorem ctm_12 (p : Nat → Bool) : ∀ n, ctm p n ≤ n
  | 0 => Nat.le_refl 0
  | n + 1 => by
    rw [ctm]
    have := ctm_12 p n
    split <;> omega
theorem liar_bit {M Z : Nat → Nat → Int32} {N lm om : Nat} (h : SimM M Z N lm om) {model : Int32} (hm : model = 0 ∨ model = 1 ∨ model = 2) {s j : Nat} (hs : s < 4096) (hj : j < N) (Y : Nat → Nat → Int64) {limit : Int32} (h1 : 1 ≤ limit.toInt) (h9 : limit.toInt ≤ 999)
    (hl : ¬ f7_findWorst (Z 0) (Z 1) Y model (nI s) (ntOf model) N 4 j ≤ limit.toInt64 * f7_findWorst (Z 0) (Z 1) Y model (nI s) (ntOf model) N 5 0) : s.testBit j = true := by
  obtain ⟨e5, e4⟩ := worst_at h hm hs (fun _ _ => 0) Y
  rw [e5, e4 j hj] at hl
  cases hc : s.testBit j
  · rw [hc] at hl
    exfalso
    apply hl
    apply Int64.le_iff_toInt_le.mpr
    have := ld_I h model (nI s) (fun _ _ => 0) (limit := limit) (by omega) h9
    show (-1 : Int64).toInt ≤ _
    rw [m1_I]
    omega
  · rfl

def juL (pl rd : Nat → Int32) (model limit : Int32) (nt N : Nat) : Nat → Int32 → (Nat → Nat → Int64) → Int32 → Int32 × (Nat → Nat → Int64)
  | 0, set, Y, _ => (set, Y)
  | n + 1, set, Y, more => if more = 0 then (set, Y) else if (jlL ((f7_findWorst pl rd Y model set nt N) 4) (limit.toInt64 * (f7_findWorst pl rd Y model set nt N) 5 0) N 0 (-1)) < 0 then juL pl rd model limit nt N n set (f7_findWorst pl rd Y model set nt N) 0 else if (f7_lay pl (f7_findWorst pl rd Y model set nt N) model (set &&& (((1 : Int32) <<< ((jlL ((f7_findWorst pl rd Y model set nt N) 4) (limit.toInt64 * (f7_findWorst pl rd Y model set nt N) 5 0) N 0 (-1)) &&& 31)) ^^^ (-1))) nt N) 5 0 = 0 then juL pl rd model limit nt N n set (f7_lay pl (f7_findWorst pl rd Y model set nt N) model (set &&& (((1 : Int32) <<< ((jlL ((f7_findWorst pl rd Y model set nt N) 4) (limit.toInt64 * (f7_findWorst pl rd Y model set nt N) 5 0) N 0 (-1)) &&& 31)) ^^^ (-1))) nt N) 0 else juL pl rd model limit nt N n (set &&& (((1 : Int32) <<< ((jlL ((f7_findWorst pl rd Y model set nt N) 4) (limit.toInt64 * (f7_findWorst pl rd Y model set nt N) 5 0) N 0 (-1)) &&& 31)) ^^^ (-1))) (f7_lay pl (f7_findWorst pl rd Y model set nt N) model (set &&& (((1 : Int32) <<< ((jlL ((f7_findWorst pl rd Y model set nt N) 4) (limit.toInt64 * (f7_findWorst pl rd Y model set nt N) 5 0) N 0 (-1)) &&& 31)) ^^^ (-1))) nt N) 1

def f7_judge (Z : Nat → Nat → Int32) (Y : Nat → Nat → Int64) (N : Nat) (q0 : Nat) (model limit : Int32) : Int32 := (if (f7_isModel model) = 0 then ((-100002)) else (if (f7_in limit.toInt64 1 999) = 0 then ((-100002)) else (if ((f7_lay (Z 0) Y model (nI q0) (ntOf model) N) 5 0) = 0 then ((-100003)) else (f7_bits ((nI q0) &&& (((juL (Z 0) (Z 1) model limit (ntOf model) N 13 (nI q0) (f7_lay (Z 0) Y model (nI q0) (ntOf model) N) 1).1) ^^^ (-1)))))))
def f7_judge_Z (Z : Nat → Nat → Int32) (Y : Nat → Nat → Int64) (N : Nat) (q0 : Nat) (model limit : Int32) : Nat → Nat → Int32 := (if (f7_isModel model) = 0 then (Z) else (if (f7_in limit.toInt64 1 999) = 0 then (Z) else (if ((f7_lay (Z 0) Y model (nI q0) (ntOf model) N) 5 0) = 0 then (Z) else (uM Z 3 (joL (nI q0) ((juL (Z 0) (Z 1) model limit (ntOf model) N 13 (nI q0) (f7_lay (Z 0) Y model (nI q0) (ntOf model) N) 1).1) N 0 (Z 3))))))
def f7_judge_Y (Z : Nat → Nat → Int32) (Y : Nat → Nat → Int64) (N : Nat) (q0 : Nat) (model limit : Int32) : Nat → Nat → Int64 := (if (f7_isModel model) = 0 then (Y) else (if (f7_in limit.toInt64 1 999) = 0 then (Y) else (if ((f7_lay (Z 0) Y model (nI q0) (ntOf model) N) 5 0) = 0 then (f7_lay (Z 0) Y model (nI q0) (ntOf model) N) else (((juL (Z 0) (Z 1) model limit (ntOf model) N 13 (nI q0) (f7_lay (Z 0) Y model (nI q0) (ntOf model) N) 1).2)))))
set_option maxHeartbeats 4000000 in
set_option maxRecDepth 100000 in
theorem kX7_judge (l : Launch) (D : va_G) (C : Nat → ClassId) (a : Nat → Nat) (Z : Nat → Nat → Int32) (Y : Nat → Nat → Int64) (model limit : Int32) (sz : Nat) (N : Nat) (hN : Z 12 0 = nI N) (hN12 : N ≤ 12) (M : Nat → Nat → Int32) (lm om : Nat) (hSM : SimM M Z N lm om) (q0 : Nat) (hq0 : jsL (Z 2) N 0 0 = nI q0) (hq4 : q0 < 4096) : Wi l D C yX7_judge cX7_judge 8 .int 4 [.ref (a 0), .int model, .int limit] (wZ a C Z Y) ((wZ a C (f7_judge_Z Z Y N q0 model limit) (f7_judge_Y Z Y N q0 model limit))) (f7_judge Z Y N q0 model limit) sz := by
  refine Met.ofW (cc := cX7_judge) (maxL := 8) (ret := (some .int)) (by decide) rfl ?_
  intro p e s m args below meth c s₁ B hml hv
  obtain ⟨rfl, hsz, hP, hK, hNw, hD0⟩ := hv
  have hx := B.exec
  have hb := B.bytes
  have hr := B.returns
  have hts := atoms_spec (ws := wm yX7_judge cX7_judge 8 (some .int)) B.pre
  have hown : s.vm.findClass RX7 = some m.cls := findClass_of_methodNamed B.named
  have hlocks := B.notSynchronized
  have hW : ∀ w ∈ WA, w.before _ s = true := fun w h => hts w (List.mem_cons_of_mem _ h)
  subst hsz
  have hD := hD0.self (sz := s.heap.size)
  generalize hAe : va_A (wZ a C Z Y) s.heap.size = A at hD ⊢
  have hA : ∀ q : Nat, s.heap.size ≤ q → A q := fun q h => by rw [← hAe]; exact Or.inr h
  have hS : va_S A s.heap s.heap [] := va_S.rf
  have hP : va_P D vwCl [((a 0), .inr (7, [.int (Z 12 0), .ref (a 1), .ref (a 2), .ref (a 3), .ref (a 4), .int (Z 12 1), .ref (a 5), .ref (a 6), .ref (a 7), .ref (a 8), .ref (a 9), .int (Z 12 2), .ref (a 10), .int (Z 12 3), .int (Z 12 4), .ref (a 11), .ref (a 12), .long (Y 5 0), .ref (a 13), .ref (a 14), .ref (a 15), .ref (a 16), .ref (a 17)])), ((a 1), eI C 48 (Z 0)), ((a 2), eI C 24 (Z 1)), ((a 3), eZ C 12 (Z 2)), ((a 4), eZ C 12 (Z 3)), ((a 5), eI C 60 (Z 4)), ((a 6), eI C 60 (Z 5)), ((a 7), eI C 60 (Z 6)), ((a 8), eZ C 60 (Z 7)), ((a 9), eZ C 244 (Z 8)), ((a 10), eI C 24 (Z 9)), ((a 11), eJ C 9 (Y 0)), ((a 12), eJ C 9 (Y 1)), ((a 13), eJ C 3 (Y 2)), ((a 14), eJ C 3 (Y 3)), ((a 15), eJ C 12 (Y 4)), ((a 16), eI C 6 (Z 10)), ((a 17), eI C 4 (Z 11))] s.heap := hP
  have hD : va_D A [((a 0), .inr (7, [.int (Z 12 0), .ref (a 1), .ref (a 2), .ref (a 3), .ref (a 4), .int (Z 12 1), .ref (a 5), .ref (a 6), .ref (a 7), .ref (a 8), .ref (a 9), .int (Z 12 2), .ref (a 10), .int (Z 12 3), .int (Z 12 4), .ref (a 11), .ref (a 12), .long (Y 5 0), .ref (a 13), .ref (a 14), .ref (a 15), .ref (a 16), .ref (a 17)])), ((a 1), eI C 48 (Z 0)), ((a 2), eI C 24 (Z 1)), ((a 3), eZ C 12 (Z 2)), ((a 4), eZ C 12 (Z 3)), ((a 5), eI C 60 (Z 4)), ((a 6), eI C 60 (Z 5)), ((a 7), eI C 60 (Z 6)), ((a 8), eZ C 60 (Z 7)), ((a 9), eZ C 244 (Z 8)), ((a 10), eI C 24 (Z 9)), ((a 11), eJ C 9 (Y 0)), ((a 12), eJ C 9 (Y 1)), ((a 13), eJ C 3 (Y 2)), ((a 14), eJ C 3 (Y 3)), ((a 15), eJ C 12 (Y 4)), ((a 16), eI C 6 (Z 10)), ((a 17), eI C 4 (Z 11))] := hD
  have hl := lv_entry ([.ref (a 0), .int model, .int limit]) (n := 8) (Nat.le_of_ble_eq_true rfl)
  rw [lg_entry_eq]
  generalize (lg_sl ([.ref (a 0), .int model, .int limit]) ++ List.replicate (8 - (lg_sl ([.ref (a 0), .int model, .int limit])).length) Slot.unset).toArray = ls at hl ⊢
  have hl : lv_has ls 8 [(0, .ref (a 0)), (1, .int model), (2, .int limit)] := hl
  refine lv_iload_n hx hb dX7_judge_0 rfl (lv_at hl 1 rfl) ?_
  refine xri (r := f7_isModel model) (rS (As := [.int model]) (n := 1) (rest := []) ⟨hx, hb, hml, hown, hW⟩ (kX7_isModel l model) (wa tw678 rfl) (wa tw676 rfl) (wa tw677 rfl) (wa tw8 rfl) (by decide +kernel) ⟨Nat.le_of_ble_eq_true rfl, Nat.le_of_ble_eq_true rfl⟩ pS0 hl.1 rfl (Nat.le_of_ble_eq_true rfl) dX7_judge_1 ⟨Nat.le_of_ble_eq_true rfl, Nat.le_of_ble_eq_true rfl⟩ rfl rfl rfl) ?_
  refine lv_if_eq (tgt := 19) hx hb dX7_judge_4 (by decide) (fun c_1 => ?_) (fun c_1 => ?_)
  · refine lv_ldc hx hb hown (hW _ (wa tw631 rfl)) dX7_judge_19 ?_
    have hb_0 : (f7_judge_Z Z Y N q0 model limit) = Z := (by simp only [f7_judge, f7_judge_Z, f7_judge_Y, if_pos c_1])
    have hb_1 : (f7_judge_Y Z Y N q0 model limit) = Y := (by simp only [f7_judge, f7_judge_Z, f7_judge_Y, if_pos c_1])
    have hP9 : va_P D vwCl ((wZ a C (f7_judge_Z Z Y N q0 model limit) (f7_judge_Y Z Y N q0 model limit))) s.heap := by rw [hb_0, hb_1]; exact hP
    have hD9 : va_D A ((wZ a C (f7_judge_Z Z Y N q0 model limit) (f7_judge_Y Z Y N q0 model limit))) := by rw [hb_0, hb_1]; exact hD
    exact W.iret (v := (-100002)) hx hb hr (fun t ht _ => ⟨⟨_, (), rfl, (by simp only [f7_judge, f7_judge_Z, f7_judge_Y, if_pos c_1]), ⟨by rw [ht]; exact hP9, by rw [hAe]; exact hD9⟩⟩, hS.F ht⟩) hS.2.2 dX7_judge_21
  · refine lv_iload_n hx hb dX7_judge_7 rfl (lv_at hl 2 rfl) ?_
    refine lv_i2l (v := limit.toInt64) hx hb dX7_judge_8 rfl ?_
    refine lv_lconst (v := 1) hx hb dX7_judge_9 (by decide) ?_
    refine lv_ldc2 hx hb hown (hW _ (wa tw643 rfl)) dX7_judge_10 ?_
    refine xri (r := f7_in limit.toInt64 1 999) (rS (As := [.long limit.toInt64, .long 1, .long 999]) (n := 3) (rest := []) ⟨hx, hb, hml, hown, hW⟩ (kX7_in l limit.toInt64 1 999) (wa tw628 rfl) (wa tw626 rfl) (wa tw627 rfl) (wa tw8 rfl) (by decide +kernel) ⟨Nat.le_of_ble_eq_true rfl, Nat.le_of_ble_eq_true rfl⟩ pS0 hl.1 rfl (Nat.le_of_ble_eq_true rfl) dX7_judge_13 ⟨Nat.le_of_ble_eq_true rfl, Nat.le_of_ble_eq_true rfl⟩ rfl rfl rfl) ?_
    refine lv_if_ne (tgt := 22) hx hb dX7_judge_16 (by decide) (fun c_2 => ?_) (fun c_2 => ?_)
    · refine lv_iconst (v := 0) hx hb dX7_judge_22 (by decide) ?_
      refine lv_istore_n (lv' := [(3, .int 0), (0, .ref (a 0)), (1, .int model), (2, .int limit)]) hx hb dX7_judge_23 rfl hl (by decide) rfl (fun ls hl => ?_)
      refine lv_iconst (v := 0) hx hb dX7_judge_24 (by decide) ?_
      refine lv_istore (lv' := [(4, .int 0), (3, .int 0), (0, .ref (a 0)), (1, .int model), (2, .int limit)]) hx hb dX7_judge_25 hl (by decide) rfl (fun ls hl => ?_)
      obtain ⟨n27, k, x, hinv⟩ : ∃ (n27 : Nat) (k : Nat) (x : Int32), (k + n27 = N) ∧ (jsL (Z 2) n27 k x = jsL (Z 2) N 0 0) ∧ lv_has ls 8 [(0, .ref (a 0)), (1, .int model), (2, .int limit), (3, .int x), (4, .int (nI k))] := ⟨N, 0, 0, by omega, rfl, lv_sub hl [2, 3, 4, 1, 0] rfl⟩
      clear hl
      induction n27 generalizing k x ls with
      | zero =>
        obtain ⟨h27_0, h27_1, hl⟩ := hinv
        refine lv_iload hx hb dX7_judge_27 (lv_at hl 4 rfl) ?_
        refine lv_aload_n hx hb dX7_judge_29 rfl (lv_at hl 0 rfl) ?_
        refine va_get (D := D) (ci := 7) (C := RX7) (T := TX7) (N := 23) hx hb hW inX7 hown hK hP 0 rfl rfl 0 (by decide) (hW _ (wa tw550 rfl)) (fun _ h9 => h9) rfl dX7_judge_30 ?_
        refine lv_icmp_ge (tgt := 63) hx hb dX7_judge_33 (by decide) (fun c_3 => ?_) (fun c_3 => ?_)
        · have e_x : x = nI q0 := h27_1.trans hq0
          subst e_x
          have hmod := q_model c_1
          have hlim := q_limit c_2
          refine lv_aload_n hx hb dX7_judge_63 rfl (lv_at hl 0 rfl) ?_
          refine lv_iload_n hx hb dX7_judge_64 rfl (lv_at hl 1 rfl) ?_
          refine lv_iload_n hx hb dX7_judge_65 rfl (lv_at hl 3 rfl) ?_
          refine xwv (wr := []) (rV (As := [.int model, .int (nI q0)]) (n := 2) (rest := []) ⟨hx, hb, hml, hown, hW⟩ (kX7_lay l D C a Z Y model (nI q0) s.heap.size N hN hN12 (ntOf model) (ntOf_eq _) (ntOf_13 _)) (wa tw684 rfl) (wa tw681 rfl) (wa tw683 rfl) (was ts41 rfl) (wa tw8 rfl) (by decide +kernel) ⟨Nat.le_of_ble_eq_true rfl, Nat.le_of_ble_eq_true rfl⟩ (pVw hP hD hK hNw 0 rfl rfl) hl.1 rfl (Nat.le_of_ble_eq_true rfl) dX7_judge_66 ⟨Nat.le_of_ble_eq_true rfl, Nat.le_of_ble_eq_true rfl⟩ rfl rfl rfl) hP hD hS hA [0, 1, 2, 3, 4, 5, 6, 7, 8, 9, 10, 11, 12, 13, 14, 15, 16, 17] [] rfl rfl (by decide) (by decide) (fun H locs hP hD hS => ?_)
          have hP : va_P D vwCl [((a 0), .inr (7, [.int (Z 12 0), .ref (a 1), .ref (a 2), .ref (a 3), .ref (a 4), .int (Z 12 1), .ref (a 5), .ref (a 6), .ref (a 7), .ref (a 8), .ref (a 9), .int (Z 12 2), .ref (a 10), .int (Z 12 3), .int (Z 12 4), .ref (a 11), .ref (a 12), .long ((f7_lay (Z 0) Y model (nI q0) (ntOf model) N) 5 0), .ref (a 13), .ref (a 14), .ref (a 15), .ref (a 16), .ref (a 17)])), ((a 1), eI C 48 (Z 0)), ((a 2), eI C 24 (Z 1)), ((a 3), eZ C 12 (Z 2)), ((a 4), eZ C 12 (Z 3)), ((a 5), eI C 60 (Z 4)), ((a 6), eI C 60 (Z 5)), ((a 7), eI C 60 (Z 6)), ((a 8), eZ C 60 (Z 7)), ((a 9), eZ C 244 (Z 8)), ((a 10), eI C 24 (Z 9)), ((a 11), eJ C 9 ((f7_lay (Z 0) Y model (nI q0) (ntOf model) N) 0)), ((a 12), eJ C 9 ((f7_lay (Z 0) Y model (nI q0) (ntOf model) N) 1)), ((a 13), eJ C 3 ((f7_lay (Z 0) Y model (nI q0) (ntOf model) N) 2)), ((a 14), eJ C 3 ((f7_lay (Z 0) Y model (nI q0) (ntOf model) N) 3)), ((a 15), eJ C 12 ((f7_lay (Z 0) Y model (nI q0) (ntOf model) N) 4)), ((a 16), eI C 6 (Z 10)), ((a 17), eI C 4 (Z 11))] H := hP
          have hD : va_D A [((a 0), .inr (7, [.int (Z 12 0), .ref (a 1), .ref (a 2), .ref (a 3), .ref (a 4), .int (Z 12 1), .ref (a 5), .ref (a 6), .ref (a 7), .ref (a 8), .ref (a 9), .int (Z 12 2), .ref (a 10), .int (Z 12 3), .int (Z 12 4), .ref (a 11), .ref (a 12), .long ((f7_lay (Z 0) Y model (nI q0) (ntOf model) N) 5 0), .ref (a 13), .ref (a 14), .ref (a 15), .ref (a 16), .ref (a 17)])), ((a 1), eI C 48 (Z 0)), ((a 2), eI C 24 (Z 1)), ((a 3), eZ C 12 (Z 2)), ((a 4), eZ C 12 (Z 3)), ((a 5), eI C 60 (Z 4)), ((a 6), eI C 60 (Z 5)), ((a 7), eI C 60 (Z 6)), ((a 8), eZ C 60 (Z 7)), ((a 9), eZ C 244 (Z 8)), ((a 10), eI C 24 (Z 9)), ((a 11), eJ C 9 ((f7_lay (Z 0) Y model (nI q0) (ntOf model) N) 0)), ((a 12), eJ C 9 ((f7_lay (Z 0) Y model (nI q0) (ntOf model) N) 1)), ((a 13), eJ C 3 ((f7_lay (Z 0) Y model (nI q0) (ntOf model) N) 2)), ((a 14), eJ C 3 ((f7_lay (Z 0) Y model (nI q0) (ntOf model) N) 3)), ((a 15), eJ C 12 ((f7_lay (Z 0) Y model (nI q0) (ntOf model) N) 4)), ((a 16), eI C 6 (Z 10)), ((a 17), eI C 4 (Z 11))] := hD
          refine lv_aload_n hx hb dX7_judge_69 rfl (lv_at hl 0 rfl) ?_
          refine va_get (D := D) (ci := 7) (C := RX7) (T := TX7) (N := 23) hx hb hW inX7 hown hK hP 0 rfl rfl 17 (by decide) (hW _ (wa tw567 rfl)) (fun _ h9 => h9) rfl dX7_judge_70 ?_
          refine lv_lconst (v := 0) hx hb dX7_judge_73 (by decide) ?_
          refine xlcmp_ne (tgt := 81) hx hb dX7_judge_74 dX7_judge_75 (by decide) (fun c_4 => ?_) (fun c_4 => ?_)
          · refine lv_iload_n hx hb dX7_judge_81 rfl (lv_at hl 3 rfl) ?_
            refine lv_istore (lv' := [(4, .int (nI q0)), (0, .ref (a 0)), (1, .int model), (2, .int limit), (3, .int (nI q0))]) hx hb dX7_judge_82 hl (by decide) rfl (fun ls hl => ?_)
            refine lv_iconst (v := 1) hx hb dX7_judge_84 (by decide) ?_
            refine lv_istore (lv' := [(5, .int 1), (4, .int (nI q0)), (0, .ref (a 0)), (1, .int model), (2, .int limit), (3, .int (nI q0))]) hx hb dX7_judge_85 hl (by decide) rfl (fun ls hl => ?_)
            refine xgen hP hS (fun H locs hP hS => ?_)
            obtain ⟨n87, q, mr, Yv, hinv⟩ : ∃ (n87 : Nat) (q : Nat) (mr : Int32) (Yv : Nat → Nat → Int64), (juL (Z 0) (Z 1) model limit (ntOf model) N n87 (nI q) Yv mr = (juL (Z 0) (Z 1) model limit (ntOf model) N 13 (nI q0) (f7_lay (Z 0) Y model (nI q0) (ntOf model) N) 1)) ∧ (q < 4096) ∧ (mr = 0 ∨ (mr = 1 ∧ ctm (fun i => q.testBit i) 12 < n87)) ∧ lv_has ls 8 [(0, .ref (a 0)), (1, .int model), (2, .int limit), (3, .int (nI q)), (4, .int (nI q0)), (5, .int mr)] ∧ va_P D vwCl [((a 0), .inr (7, [.int (Z 12 0), .ref (a 1), .ref (a 2), .ref (a 3), .ref (a 4), .int (Z 12 1), .ref (a 5), .ref (a 6), .ref (a 7), .ref (a 8), .ref (a 9), .int (Z 12 2), .ref (a 10), .int (Z 12 3), .int (Z 12 4), .ref (a 11), .ref (a 12), .long (Yv 5 0), .ref (a 13), .ref (a 14), .ref (a 15), .ref (a 16), .ref (a 17)])), ((a 1), eI C 48 (Z 0)), ((a 2), eI C 24 (Z 1)), ((a 3), eZ C 12 (Z 2)), ((a 4), eZ C 12 (Z 3)), ((a 5), eI C 60 (Z 4)), ((a 6), eI C 60 (Z 5)), ((a 7), eI C 60 (Z 6)), ((a 8), eZ C 60 (Z 7)), ((a 9), eZ C 244 (Z 8)), ((a 10), eI C 24 (Z 9)), ((a 11), eJ C 9 (Yv 0)), ((a 12), eJ C 9 (Yv 1)), ((a 13), eJ C 3 (Yv 2)), ((a 14), eJ C 3 (Yv 3)), ((a 15), eJ C 12 (Yv 4)), ((a 16), eI C 6 (Z 10)), ((a 17), eI C 4 (Z 11))] H ∧ va_D A [((a 0), .inr (7, [.int (Z 12 0), .ref (a 1), .ref (a 2), .ref (a 3), .ref (a 4), .int (Z 12 1), .ref (a 5), .ref (a 6), .ref (a 7), .ref (a 8), .ref (a 9), .int (Z 12 2), .ref (a 10), .int (Z 12 3), .int (Z 12 4), .ref (a 11), .ref (a 12), .long (Yv 5 0), .ref (a 13), .ref (a 14), .ref (a 15), .ref (a 16), .ref (a 17)])), ((a 1), eI C 48 (Z 0)), ((a 2), eI C 24 (Z 1)), ((a 3), eZ C 12 (Z 2)), ((a 4), eZ C 12 (Z 3)), ((a 5), eI C 60 (Z 4)), ((a 6), eI C 60 (Z 5)), ((a 7), eI C 60 (Z 6)), ((a 8), eZ C 60 (Z 7)), ((a 9), eZ C 244 (Z 8)), ((a 10), eI C 24 (Z 9)), ((a 11), eJ C 9 (Yv 0)), ((a 12), eJ C 9 (Yv 1)), ((a 13), eJ C 3 (Yv 2)), ((a 14), eJ C 3 (Yv 3)), ((a 15), eJ C 12 (Yv 4)), ((a 16), eI C 6 (Z 10)), ((a 17), eI C 4 (Z 11))] ∧ va_S A s.heap H locs := ⟨13, q0, 1, (f7_lay (Z 0) Y model (nI q0) (ntOf model) N), rfl, hq4, Or.inr ⟨rfl, Nat.lt_of_le_of_lt (ctm_12 _ 12) (by decide)⟩, lv_sub hl [2, 3, 4, 5, 1, 0] rfl, hP, hD, hS⟩
            clear hl hP hD hS
            induction n87 generalizing q mr Yv ls H locs with
            | zero =>
              obtain ⟨h87_0, h87_1, h87_2, hl, hP, hD, hS⟩ := hinv
              refine lv_iload hx hb dX7_judge_87 (lv_at hl 5 rfl) ?_
              refine lv_if_eq (tgt := 236) hx hb dX7_judge_89 (by decide) (fun c_5 => ?_) (fun c_5 => ?_)
              · have e_q : nI q = (juL (Z 0) (Z 1) model limit (ntOf model) N 13 (nI q0) (f7_lay (Z 0) Y model (nI q0) (ntOf model) N) 1).1 := congrArg (fun z => z.1) (show (nI q, Yv) = (juL (Z 0) (Z 1) model limit (ntOf model) N 13 (nI q0) (f7_lay (Z 0) Y model (nI q0) (ntOf model) N) 1) from h87_0)
                have e_Y : Yv = (juL (Z 0) (Z 1) model limit (ntOf model) N 13 (nI q0) (f7_lay (Z 0) Y model (nI q0) (ntOf model) N) 1).2 := congrArg (fun z => z.2) (show (nI q, Yv) = (juL (Z 0) (Z 1) model limit (ntOf model) N 13 (nI q0) (f7_lay (Z 0) Y model (nI q0) (ntOf model) N) 1) from h87_0)
                rw [e_q] at hl
                subst e_Y
                refine lv_iconst (v := 0) hx hb dX7_judge_236 (by decide) ?_
                refine lv_istore (lv' := [(6, .int 0), (0, .ref (a 0)), (1, .int model), (2, .int limit), (3, .int ((juL (Z 0) (Z 1) model limit (ntOf model) N 13 (nI q0) (f7_lay (Z 0) Y model (nI q0) (ntOf model) N) 1).1)), (4, .int (nI q0)), (5, .int mr)]) hx hb dX7_judge_237 hl (by decide) rfl (fun ls hl => ?_)
                refine xgen hP hS (fun H locs hP hS => ?_)
                obtain ⟨n239, j, O1, hinv⟩ : ∃ (n239 : Nat) (j : Nat) (O1 : Nat → Int32), (j + n239 = N) ∧ (joL (nI q0) ((juL (Z 0) (Z 1) model limit (ntOf model) N 13 (nI q0) (f7_lay (Z 0) Y model (nI q0) (ntOf model) N) 1).1) n239 j O1 = joL (nI q0) ((juL (Z 0) (Z 1) model limit (ntOf model) N 13 (nI q0) (f7_lay (Z 0) Y model (nI q0) (ntOf model) N) 1).1) N 0 (Z 3)) ∧ lv_has ls 8 [(0, .ref (a 0)), (1, .int model), (2, .int limit), (3, .int ((juL (Z 0) (Z 1) model limit (ntOf model) N 13 (nI q0) (f7_lay (Z 0) Y model (nI q0) (ntOf model) N) 1).1)), (4, .int (nI q0)), (6, .int (nI j))] ∧ va_P D vwCl [((a 0), .inr (7, [.int (Z 12 0), .ref (a 1), .ref (a 2), .ref (a 3), .ref (a 4), .int (Z 12 1), .ref (a 5), .ref (a 6), .ref (a 7), .ref (a 8), .ref (a 9), .int (Z 12 2), .ref (a 10), .int (Z 12 3), .int (Z 12 4), .ref (a 11), .ref (a 12), .long (((juL (Z 0) (Z 1) model limit (ntOf model) N 13 (nI q0) (f7_lay (Z 0) Y model (nI q0) (ntOf model) N) 1).2) 5 0), .ref (a 13), .ref (a 14), .ref (a 15), .ref (a 16), .ref (a 17)])), ((a 1), eI C 48 (Z 0)), ((a 2), eI C 24 (Z 1)), ((a 3), eZ C 12 (Z 2)), ((a 4), eZ C 12 O1), ((a 5), eI C 60 (Z 4)), ((a 6), eI C 60 (Z 5)), ((a 7), eI C 60 (Z 6)), ((a 8), eZ C 60 (Z 7)), ((a 9), eZ C 244 (Z 8)), ((a 10), eI C 24 (Z 9)), ((a 11), eJ C 9 (((juL (Z 0) (Z 1) model limit (ntOf model) N 13 (nI q0) (f7_lay (Z 0) Y model (nI q0) (ntOf model) N) 1).2) 0)), ((a 12), eJ C 9 (((juL (Z 0) (Z 1) model limit (ntOf model) N 13 (nI q0) (f7_lay (Z 0) Y model (nI q0) (ntOf model) N) 1).2) 1)), ((a 13), eJ C 3 (((juL (Z 0) (Z 1) model limit (ntOf model) N 13 (nI q0) (f7_lay (Z 0) Y model (nI q0) (ntOf model) N) 1).2) 2)), ((a 14), eJ C 3 (((juL (Z 0) (Z 1) model limit (ntOf model) N 13 (nI q0) (f7_lay (Z 0) Y model (nI q0) (ntOf model) N) 1).2) 3)), ((a 15), eJ C 12 (((juL (Z 0) (Z 1) model limit (ntOf model) N 13 (nI q0) (f7_lay (Z 0) Y model (nI q0) (ntOf model) N) 1).2) 4)), ((a 16), eI C 6 (Z 10)), ((a 17), eI C 4 (Z 11))] H ∧ va_D A [((a 0), .inr (7, [.int (Z 12 0), .ref (a 1), .ref (a 2), .ref (a 3), .ref (a 4), .int (Z 12 1), .ref (a 5), .ref (a 6), .ref (a 7), .ref (a 8), .ref (a 9), .int (Z 12 2), .ref (a 10), .int (Z 12 3), .int (Z 12 4), .ref (a 11), .ref (a 12), .long (((juL (Z 0) (Z 1) model limit (ntOf model) N 13 (nI q0) (f7_lay (Z 0) Y model (nI q0) (ntOf model) N) 1).2) 5 0), .ref (a 13), .ref (a 14), .ref (a 15), .ref (a 16), .ref (a 17)])), ((a 1), eI C 48 (Z 0)), ((a 2), eI C 24 (Z 1)), ((a 3), eZ C 12 (Z 2)), ((a 4), eZ C 12 O1), ((a 5), eI C 60 (Z 4)), ((a 6), eI C 60 (Z 5)), ((a 7), eI C 60 (Z 6)), ((a 8), eZ C 60 (Z 7)), ((a 9), eZ C 244 (Z 8)), ((a 10), eI C 24 (Z 9)), ((a 11), eJ C 9 (((juL (Z 0) (Z 1) model limit (ntOf model) N 13 (nI q0) (f7_lay (Z 0) Y model (nI q0) (ntOf model) N) 1).2) 0)), ((a 12), eJ C 9 (((juL (Z 0) (Z 1) model limit (ntOf model) N 13 (nI q0) (f7_lay (Z 0) Y model (nI q0) (ntOf model) N) 1).2) 1)), ((a 13), eJ C 3 (((juL (Z 0) (Z 1) model limit (ntOf model) N 13 (nI q0) (f7_lay (Z 0) Y model (nI q0) (ntOf model) N) 1).2) 2)), ((a 14), eJ C 3 (((juL (Z 0) (Z 1) model limit (ntOf model) N 13 (nI q0) (f7_lay (Z 0) Y model (nI q0) (ntOf model) N) 1).2) 3)), ((a 15), eJ C 12 (((juL (Z 0) (Z 1) model limit (ntOf model) N 13 (nI q0) (f7_lay (Z 0) Y model (nI q0) (ntOf model) N) 1).2) 4)), ((a 16), eI C 6 (Z 10)), ((a 17), eI C 4 (Z 11))] ∧ va_S A s.heap H locs := ⟨N, 0, (Z 3), by omega, rfl, lv_sub hl [1, 2, 3, 4, 5, 0] rfl, hP, hD, hS⟩
                clear hl hP hD hS
                induction n239 generalizing j O1 ls H locs with
                | zero =>
                  obtain ⟨h239_0, h239_1, hl, hP, hD, hS⟩ := hinv
                  refine lv_iload hx hb dX7_judge_239 (lv_at hl 5 rfl) ?_
                  refine lv_aload_n hx hb dX7_judge_241 rfl (lv_at hl 0 rfl) ?_
                  refine va_get (D := D) (ci := 7) (C := RX7) (T := TX7) (N := 23) hx hb hW inX7 hown hK hP 0 rfl rfl 0 (by decide) (hW _ (wa tw550 rfl)) (fun _ h9 => h9) rfl dX7_judge_242 ?_
                  refine lv_icmp_ge (tgt := 286) hx hb dX7_judge_245 (by decide) (fun c_6 => ?_) (fun c_6 => ?_)
                  · have e_O : O1 = joL (nI q0) ((juL (Z 0) (Z 1) model limit (ntOf model) N 13 (nI q0) (f7_lay (Z 0) Y model (nI q0) (ntOf model) N) 1).1) N 0 (Z 3) := h239_1
                    subst e_O
                    refine lv_iload hx hb dX7_judge_286 (lv_at hl 4 rfl) ?_
                    refine lv_iload_n hx hb dX7_judge_288 rfl (lv_at hl 3 rfl) ?_
                    refine lv_iconst (v := (-1)) hx hb dX7_judge_289 (by decide) ?_
                    refine lv_ixor hx hb dX7_judge_290 ?_
                    refine lv_iand hx hb dX7_judge_291 ?_
                    refine xri (r := f7_bits ((nI q0) &&& (((juL (Z 0) (Z 1) model limit (ntOf model) N 13 (nI q0) (f7_lay (Z 0) Y model (nI q0) (ntOf model) N) 1).1) ^^^ (-1)))) (rS (As := [.int ((nI q0) &&& (((juL (Z 0) (Z 1) model limit (ntOf model) N 13 (nI q0) (f7_lay (Z 0) Y model (nI q0) (ntOf model) N) 1).1) ^^^ (-1)))]) (n := 1) (rest := []) ⟨hx, hb, hml, hown, hW⟩ (kX7_bits l ((nI q0) &&& (((juL (Z 0) (Z 1) model limit (ntOf model) N 13 (nI q0) (f7_lay (Z 0) Y model (nI q0) (ntOf model) N) 1).1) ^^^ (-1)))) (wa tw667 rfl) (wa tw665 rfl) (wa tw666 rfl) (wa tw8 rfl) (by decide +kernel) ⟨Nat.le_of_ble_eq_true rfl, Nat.le_of_ble_eq_true rfl⟩ pS0 hl.1 rfl (Nat.le_of_ble_eq_true rfl) dX7_judge_292 ⟨Nat.le_of_ble_eq_true rfl, Nat.le_of_ble_eq_true rfl⟩ rfl rfl rfl) ?_
                    have hb_0 : (f7_judge_Z Z Y N q0 model limit) = uM Z 3 (joL (nI q0) ((juL (Z 0) (Z 1) model limit (ntOf model) N 13 (nI q0) (f7_lay (Z 0) Y model (nI q0) (ntOf model) N) 1).1) N 0 (Z 3)) := (by simp only [f7_judge, f7_judge_Z, f7_judge_Y, if_neg c_1, if_neg c_2, if_neg c_4])
                    have hb_1 : (f7_judge_Y Z Y N q0 model limit) = ((juL (Z 0) (Z 1) model limit (ntOf model) N 13 (nI q0) (f7_lay (Z 0) Y model (nI q0) (ntOf model) N) 1).2) := (by simp only [f7_judge, f7_judge_Z, f7_judge_Y, if_neg c_1, if_neg c_2, if_neg c_4])
                    have hP9 : va_P D vwCl ((wZ a C (f7_judge_Z Z Y N q0 model limit) (f7_judge_Y Z Y N q0 model limit))) H := by rw [hb_0, hb_1]; exact hP
                    have hD9 : va_D A ((wZ a C (f7_judge_Z Z Y N q0 model limit) (f7_judge_Y Z Y N q0 model limit))) := by rw [hb_0, hb_1]; exact hD
                    exact W.iret (v := f7_bits ((nI q0) &&& (((juL (Z 0) (Z 1) model limit (ntOf model) N 13 (nI q0) (f7_lay (Z 0) Y model (nI q0) (ntOf model) N) 1).1) ^^^ (-1)))) hx hb hr (fun t ht _ => ⟨⟨_, (), rfl, (by simp only [f7_judge, f7_judge_Z, f7_judge_Y, if_neg c_1, if_neg c_2, if_neg c_4]), ⟨by rw [ht]; exact hP9, by rw [hAe]; exact hD9⟩⟩, hS.F ht⟩) hS.2.2 dX7_judge_295
                  · exact absurd (q_le hN rfl (by omega) (by omega)) c_6
                | succ n239 ih239 =>
                  obtain ⟨h239_0, h239_1, hl, hP, hD, hS⟩ := hinv
                  refine lv_iload hx hb dX7_judge_239 (lv_at hl 5 rfl) ?_
                  refine lv_aload_n hx hb dX7_judge_241 rfl (lv_at hl 0 rfl) ?_
                  refine va_get (D := D) (ci := 7) (C := RX7) (T := TX7) (N := 23) hx hb hW inX7 hown hK hP 0 rfl rfl 0 (by decide) (hW _ (wa tw550 rfl)) (fun _ h9 => h9) rfl dX7_judge_242 ?_
                  refine lv_icmp_ge (tgt := 286) hx hb dX7_judge_245 (by decide) (fun c_7 => ?_) (fun c_7 => ?_)
                  · exact absurd c_7 (q_nle hN rfl (by omega) (by omega))
                  · refine lv_aload_n hx hb dX7_judge_248 rfl (lv_at hl 0 rfl) ?_
                    refine va_get (D := D) (ci := 7) (C := RX7) (T := TX7) (N := 23) hx hb hW inX7 hown hK hP 0 rfl rfl 4 (by decide) (hW _ (wa tw554 rfl)) (fun _ h9 => h9) rfl dX7_judge_249 ?_
                    refine lv_iload hx hb dX7_judge_252 (lv_at hl 5 rfl) ?_
                    refine lv_iload hx hb dX7_judge_254 (lv_at hl 4 rfl) ?_
                    refine lv_iload hx hb dX7_judge_256 (lv_at hl 5 rfl) ?_
                    refine lv_ishr hx hb dX7_judge_258 ?_
                    refine lv_iconst (v := 1) hx hb dX7_judge_259 (by decide) ?_
                    refine lv_iand hx hb dX7_judge_260 ?_
                    refine lv_iconst (v := 1) hx hb dX7_judge_261 (by decide) ?_
                    refine lv_icmp_ne (tgt := 278) hx hb dX7_judge_262 (by decide) (fun c_8 => ?_) (fun c_8 => ?_)
                    · refine lv_iconst (v := 0) hx hb dX7_judge_278 (by decide) ?_
                      refine xzast hx hb hK hP hD hS 4 rfl j rfl (by omega) (by decide) (by decide) dX7_judge_279 (fun H locs hP hD hS => ?_)
                      have hP : va_P D vwCl [((a 0), .inr (7, [.int (Z 12 0), .ref (a 1), .ref (a 2), .ref (a 3), .ref (a 4), .int (Z 12 1), .ref (a 5), .ref (a 6), .ref (a 7), .ref (a 8), .ref (a 9), .int (Z 12 2), .ref (a 10), .int (Z 12 3), .int (Z 12 4), .ref (a 11), .ref (a 12), .long (((juL (Z 0) (Z 1) model limit (ntOf model) N 13 (nI q0) (f7_lay (Z 0) Y model (nI q0) (ntOf model) N) 1).2) 5 0), .ref (a 13), .ref (a 14), .ref (a 15), .ref (a 16), .ref (a 17)])), ((a 1), eI C 48 (Z 0)), ((a 2), eI C 24 (Z 1)), ((a 3), eZ C 12 (Z 2)), ((a 4), eZ C 12 (upd O1 j 0)), ((a 5), eI C 60 (Z 4)), ((a 6), eI C 60 (Z 5)), ((a 7), eI C 60 (Z 6)), ((a 8), eZ C 60 (Z 7)), ((a 9), eZ C 244 (Z 8)), ((a 10), eI C 24 (Z 9)), ((a 11), eJ C 9 (((juL (Z 0) (Z 1) model limit (ntOf model) N 13 (nI q0) (f7_lay (Z 0) Y model (nI q0) (ntOf model) N) 1).2) 0)), ((a 12), eJ C 9 (((juL (Z 0) (Z 1) model limit (ntOf model) N 13 (nI q0) (f7_lay (Z 0) Y model (nI q0) (ntOf model) N) 1).2) 1)), ((a 13), eJ C 3 (((juL (Z 0) (Z 1) model limit (ntOf model) N 13 (nI q0) (f7_lay (Z 0) Y model (nI q0) (ntOf model) N) 1).2) 2)), ((a 14), eJ C 3 (((juL (Z 0) (Z 1) model limit (ntOf model) N 13 (nI q0) (f7_lay (Z 0) Y model (nI q0) (ntOf model) N) 1).2) 3)), ((a 15), eJ C 12 (((juL (Z 0) (Z 1) model limit (ntOf model) N 13 (nI q0) (f7_lay (Z 0) Y model (nI q0) (ntOf model) N) 1).2) 4)), ((a 16), eI C 6 (Z 10)), ((a 17), eI C 4 (Z 11))] H := hP
                      have hD : va_D A [((a 0), .inr (7, [.int (Z 12 0), .ref (a 1), .ref (a 2), .ref (a 3), .ref (a 4), .int (Z 12 1), .ref (a 5), .ref (a 6), .ref (a 7), .ref (a 8), .ref (a 9), .int (Z 12 2), .ref (a 10), .int (Z 12 3), .int (Z 12 4), .ref (a 11), .ref (a 12), .long (((juL (Z 0) (Z 1) model limit (ntOf model) N 13 (nI q0) (f7_lay (Z 0) Y model (nI q0) (ntOf model) N) 1).2) 5 0), .ref (a 13), .ref (a 14), .ref (a 15), .ref (a 16), .ref (a 17)])), ((a 1), eI C 48 (Z 0)), ((a 2), eI C 24 (Z 1)), ((a 3), eZ C 12 (Z 2)), ((a 4), eZ C 12 (upd O1 j 0)), ((a 5), eI C 60 (Z 4)), ((a 6), eI C 60 (Z 5)), ((a 7), eI C 60 (Z 6)), ((a 8), eZ C 60 (Z 7)), ((a 9), eZ C 244 (Z 8)), ((a 10), eI C 24 (Z 9)), ((a 11), eJ C 9 (((juL (Z 0) (Z 1) model limit (ntOf model) N 13 (nI q0) (f7_lay (Z 0) Y model (nI q0) (ntOf model) N) 1).2) 0)), ((a 12), eJ C 9 (((juL (Z 0) (Z 1) model limit (ntOf model) N 13 (nI q0) (f7_lay (Z 0) Y model (nI q0) (ntOf model) N) 1).2) 1)), ((a 13), eJ C 3 (((juL (Z 0) (Z 1) model limit (ntOf model) N 13 (nI q0) (f7_lay (Z 0) Y model (nI q0) (ntOf model) N) 1).2) 2)), ((a 14), eJ C 3 (((juL (Z 0) (Z 1) model limit (ntOf model) N 13 (nI q0) (f7_lay (Z 0) Y model (nI q0) (ntOf model) N) 1).2) 3)), ((a 15), eJ C 12 (((juL (Z 0) (Z 1) model limit (ntOf model) N 13 (nI q0) (f7_lay (Z 0) Y model (nI q0) (ntOf model) N) 1).2) 4)), ((a 16), eI C 6 (Z 10)), ((a 17), eI C 4 (Z 11))] := hD
                      refine lv_iinc (v := nI j + 1) (lv' := [(6, .int (nI j + 1)), (0, .ref (a 0)), (1, .int model), (2, .int limit), (3, .int ((juL (Z 0) (Z 1) model limit (ntOf model) N 13 (nI q0) (f7_lay (Z 0) Y model (nI q0) (ntOf model) N) 1).1)), (4, .int (nI q0))]) hx hb dX7_judge_280 hl (k := 5) rfl rfl (by decide) rfl (fun ls hl => ?_)
                      refine lv_goto (tgt := 239) hx hb dX7_judge_283 (by decide) ?_
                      rw [nI_1] at hl
                      exact ih239 (j := j + 1) (O1 := (upd O1 j 0)) (ls := ls) (H := H) (locs := locs) ⟨by omega, by rw [← h239_1, joL]; simp only [if_neg c_8], lv_sub hl [1, 2, 3, 4, 5, 0] rfl, hP, hD, hS⟩
                    · refine lv_iload_n hx hb dX7_judge_265 rfl (lv_at hl 3 rfl) ?_
                      refine lv_iload hx hb dX7_judge_266 (lv_at hl 5 rfl) ?_
                      refine lv_ishr hx hb dX7_judge_268 ?_
                      refine lv_iconst (v := 1) hx hb dX7_judge_269 (by decide) ?_
                      refine lv_iand hx hb dX7_judge_270 ?_
                      refine lv_if_ne (tgt := 278) hx hb dX7_judge_271 (by decide) (fun c_9 => ?_) (fun c_9 => ?_)
                      · refine lv_iconst (v := 0) hx hb dX7_judge_278 (by decide) ?_
                        refine xzast hx hb hK hP hD hS 4 rfl j rfl (by omega) (by decide) (by decide) dX7_judge_279 (fun H locs hP hD hS => ?_)
                        have hP : va_P D vwCl [((a 0), .inr (7, [.int (Z 12 0), .ref (a 1), .ref (a 2), .ref (a 3), .ref (a 4), .int (Z 12 1), .ref (a 5), .ref (a 6), .ref (a 7), .ref (a 8), .ref (a 9), .int (Z 12 2), .ref (a 10), .int (Z 12 3), .int (Z 12 4), .ref (a 11), .ref (a 12), .long (((juL (Z 0) (Z 1) model limit (ntOf model) N 13 (nI q0) (f7_lay (Z 0) Y model (nI q0) (ntOf model) N) 1).2) 5 0), .ref (a 13), .ref (a 14), .ref (a 15), .ref (a 16), .ref (a 17)])), ((a 1), eI C 48 (Z 0)), ((a 2), eI C 24 (Z 1)), ((a 3), eZ C 12 (Z 2)), ((a 4), eZ C 12 (upd O1 j 0)), ((a 5), eI C 60 (Z 4)), ((a 6), eI C 60 (Z 5)), ((a 7), eI C 60 (Z 6)), ((a 8), eZ C 60 (Z 7)), ((a 9), eZ C 244 (Z 8)), ((a 10), eI C 24 (Z 9)), ((a 11), eJ C 9 (((juL (Z 0) (Z 1) model limit (ntOf model) N 13 (nI q0) (f7_lay (Z 0) Y model (nI q0) (ntOf model) N) 1).2) 0)), ((a 12), eJ C 9 (((juL (Z 0) (Z 1) model limit (ntOf model) N 13 (nI q0) (f7_lay (Z 0) Y model (nI q0) (ntOf model) N) 1).2) 1)), ((a 13), eJ C 3 (((juL (Z 0) (Z 1) model limit (ntOf model) N 13 (nI q0) (f7_lay (Z 0) Y model (nI q0) (ntOf model) N) 1).2) 2)), ((a 14), eJ C 3 (((juL (Z 0) (Z 1) model limit (ntOf model) N 13 (nI q0) (f7_lay (Z 0) Y model (nI q0) (ntOf model) N) 1).2) 3)), ((a 15), eJ C 12 (((juL (Z 0) (Z 1) model limit (ntOf model) N 13 (nI q0) (f7_lay (Z 0) Y model (nI q0) (ntOf model) N) 1).2) 4)), ((a 16), eI C 6 (Z 10)), ((a 17), eI C 4 (Z 11))] H := hP
                        have hD : va_D A [((a 0), .inr (7, [.int (Z 12 0), .ref (a 1), .ref (a 2), .ref (a 3), .ref (a 4), .int (Z 12 1), .ref (a 5), .ref (a 6), .ref (a 7), .ref (a 8), .ref (a 9), .int (Z 12 2), .ref (a 10), .int (Z 12 3), .int (Z 12 4), .ref (a 11), .ref (a 12), .long (((juL (Z 0) (Z 1) model limit (ntOf model) N 13 (nI q0) (f7_lay (Z 0) Y model (nI q0) (ntOf model) N) 1).2) 5 0), .ref (a 13), .ref (a 14), .ref (a 15), .ref (a 16), .ref (a 17)])), ((a 1), eI C 48 (Z 0)), ((a 2), eI C 24 (Z 1)), ((a 3), eZ C 12 (Z 2)), ((a 4), eZ C 12 (upd O1 j 0)), ((a 5), eI C 60 (Z 4)), ((a 6), eI C 60 (Z 5)), ((a 7), eI C 60 (Z 6)), ((a 8), eZ C 60 (Z 7)), ((a 9), eZ C 244 (Z 8)), ((a 10), eI C 24 (Z 9)), ((a 11), eJ C 9 (((juL (Z 0) (Z 1) model limit (ntOf model) N 13 (nI q0) (f7_lay (Z 0) Y model (nI q0) (ntOf model) N) 1).2) 0)), ((a 12), eJ C 9 (((juL (Z 0) (Z 1) model limit (ntOf model) N 13 (nI q0) (f7_lay (Z 0) Y model (nI q0) (ntOf model) N) 1).2) 1)), ((a 13), eJ C 3 (((juL (Z 0) (Z 1) model limit (ntOf model) N 13 (nI q0) (f7_lay (Z 0) Y model (nI q0) (ntOf model) N) 1).2) 2)), ((a 14), eJ C 3 (((juL (Z 0) (Z 1) model limit (ntOf model) N 13 (nI q0) (f7_lay (Z 0) Y model (nI q0) (ntOf model) N) 1).2) 3)), ((a 15), eJ C 12 (((juL (Z 0) (Z 1) model limit (ntOf model) N 13 (nI q0) (f7_lay (Z 0) Y model (nI q0) (ntOf model) N) 1).2) 4)), ((a 16), eI C 6 (Z 10)), ((a 17), eI C 4 (Z 11))] := hD
                        refine lv_iinc (v := nI j + 1) (lv' := [(6, .int (nI j + 1)), (0, .ref (a 0)), (1, .int model), (2, .int limit), (3, .int ((juL (Z 0) (Z 1) model limit (ntOf model) N 13 (nI q0) (f7_lay (Z 0) Y model (nI q0) (ntOf model) N) 1).1)), (4, .int (nI q0))]) hx hb dX7_judge_280 hl (k := 5) rfl rfl (by decide) rfl (fun ls hl => ?_)
                        refine lv_goto (tgt := 239) hx hb dX7_judge_283 (by decide) ?_
                        rw [nI_1] at hl
                        exact ih239 (j := j + 1) (O1 := (upd O1 j 0)) (ls := ls) (H := H) (locs := locs) ⟨by omega, by rw [← h239_1, joL]; simp only [if_pos c_8, if_neg c_9], lv_sub hl [1, 2, 3, 4, 5, 0] rfl, hP, hD, hS⟩
                      · refine lv_iconst (v := 1) hx hb dX7_judge_274 (by decide) ?_
                        refine lv_goto (tgt := 279) hx hb dX7_judge_275 (by decide) ?_
                        refine xzast hx hb hK hP hD hS 4 rfl j rfl (by omega) (by decide) (by decide) dX7_judge_279 (fun H locs hP hD hS => ?_)
                        have hP : va_P D vwCl [((a 0), .inr (7, [.int (Z 12 0), .ref (a 1), .ref (a 2), .ref (a 3), .ref (a 4), .int (Z 12 1), .ref (a 5), .ref (a 6), .ref (a 7), .ref (a 8), .ref (a 9), .int (Z 12 2), .ref (a 10), .int (Z 12 3), .int (Z 12 4), .ref (a 11), .ref (a 12), .long (((juL (Z 0) (Z 1) model limit (ntOf model) N 13 (nI q0) (f7_lay (Z 0) Y model (nI q0) (ntOf model) N) 1).2) 5 0), .ref (a 13), .ref (a 14), .ref (a 15), .ref (a 16), .ref (a 17)])), ((a 1), eI C 48 (Z 0)), ((a 2), eI C 24 (Z 1)), ((a 3), eZ C 12 (Z 2)), ((a 4), eZ C 12 (upd O1 j 1)), ((a 5), eI C 60 (Z 4)), ((a 6), eI C 60 (Z 5)), ((a 7), eI C 60 (Z 6)), ((a 8), eZ C 60 (Z 7)), ((a 9), eZ C 244 (Z 8)), ((a 10), eI C 24 (Z 9)), ((a 11), eJ C 9 (((juL (Z 0) (Z 1) model limit (ntOf model) N 13 (nI q0) (f7_lay (Z 0) Y model (nI q0) (ntOf model) N) 1).2) 0)), ((a 12), eJ C 9 (((juL (Z 0) (Z 1) model limit (ntOf model) N 13 (nI q0) (f7_lay (Z 0) Y model (nI q0) (ntOf model) N) 1).2) 1)), ((a 13), eJ C 3 (((juL (Z 0) (Z 1) model limit (ntOf model) N 13 (nI q0) (f7_lay (Z 0) Y model (nI q0) (ntOf model) N) 1).2) 2)), ((a 14), eJ C 3 (((juL (Z 0) (Z 1) model limit (ntOf model) N 13 (nI q0) (f7_lay (Z 0) Y model (nI q0) (ntOf model) N) 1).2) 3)), ((a 15), eJ C 12 (((juL (Z 0) (Z 1) model limit (ntOf model) N 13 (nI q0) (f7_lay (Z 0) Y model (nI q0) (ntOf model) N) 1).2) 4)), ((a 16), eI C 6 (Z 10)), ((a 17), eI C 4 (Z 11))] H := hP
                        have hD : va_D A [((a 0), .inr (7, [.int (Z 12 0), .ref (a 1), .ref (a 2), .ref (a 3), .ref (a 4), .int (Z 12 1), .ref (a 5), .ref (a 6), .ref (a 7), .ref (a 8), .ref (a 9), .int (Z 12 2), .ref (a 10), .int (Z 12 3), .int (Z 12 4), .ref (a 11), .ref (a 12), .long (((juL (Z 0) (Z 1) model limit (ntOf model) N 13 (nI q0) (f7_lay (Z 0) Y model (nI q0) (ntOf model) N) 1).2) 5 0), .ref (a 13), .ref (a 14), .ref (a 15), .ref (a 16), .ref (a 17)])), ((a 1), eI C 48 (Z 0)), ((a 2), eI C 24 (Z 1)), ((a 3), eZ C 12 (Z 2)), ((a 4), eZ C 12 (upd O1 j 1)), ((a 5), eI C 60 (Z 4)), ((a 6), eI C 60 (Z 5)), ((a 7), eI C 60 (Z 6)), ((a 8), eZ C 60 (Z 7)), ((a 9), eZ C 244 (Z 8)), ((a 10), eI C 24 (Z 9)), ((a 11), eJ C 9 (((juL (Z 0) (Z 1) model limit (ntOf model) N 13 (nI q0) (f7_lay (Z 0) Y model (nI q0) (ntOf model) N) 1).2) 0)), ((a 12), eJ C 9 (((juL (Z 0) (Z 1) model limit (ntOf model) N 13 (nI q0) (f7_lay (Z 0) Y model (nI q0) (ntOf model) N) 1).2) 1)), ((a 13), eJ C 3 (((juL (Z 0) (Z 1) model limit (ntOf model) N 13 (nI q0) (f7_lay (Z 0) Y model (nI q0) (ntOf model) N) 1).2) 2)), ((a 14), eJ C 3 (((juL (Z 0) (Z 1) model limit (ntOf model) N 13 (nI q0) (f7_lay (Z 0) Y model (nI q0) (ntOf model) N) 1).2) 3)), ((a 15), eJ C 12 (((juL (Z 0) (Z 1) model limit (ntOf model) N 13 (nI q0) (f7_lay (Z 0) Y model (nI q0) (ntOf model) N) 1).2) 4)), ((a 16), eI C 6 (Z 10)), ((a 17), eI C 4 (Z 11))] := hD
                        refine lv_iinc (v := nI j + 1) (lv' := [(6, .int (nI j + 1)), (0, .ref (a 0)), (1, .int model), (2, .int limit), (3, .int ((juL (Z 0) (Z 1) model limit (ntOf model) N 13 (nI q0) (f7_lay (Z 0) Y model (nI q0) (ntOf model) N) 1).1)), (4, .int (nI q0))]) hx hb dX7_judge_280 hl (k := 5) rfl rfl (by decide) rfl (fun ls hl => ?_)
                        refine lv_goto (tgt := 239) hx hb dX7_judge_283 (by decide) ?_
                        rw [nI_1] at hl
                        exact ih239 (j := j + 1) (O1 := (upd O1 j 1)) (ls := ls) (H := H) (locs := locs) ⟨by omega, by rw [← h239_1, joL]; simp only [if_pos c_8, if_pos c_9], lv_sub hl [1, 2, 3, 4, 5, 0] rfl, hP, hD, hS⟩
              · exact absurd (h87_2.resolve_left c_5).2 (by omega)
            | succ n87 ih87 =>
              obtain ⟨h87_0, h87_1, h87_2, hl, hP, hD, hS⟩ := hinv
              refine lv_iload hx hb dX7_judge_87 (lv_at hl 5 rfl) ?_
              refine lv_if_eq (tgt := 236) hx hb dX7_judge_89 (by decide) (fun c_10 => ?_) (fun c_10 => ?_)
              · have e_q : nI q = (juL (Z 0) (Z 1) model limit (ntOf model) N 13 (nI q0) (f7_lay (Z 0) Y model (nI q0) (ntOf model) N) 1).1 := congrArg (fun z => z.1) (show (nI q, Yv) = (juL (Z 0) (Z 1) model limit (ntOf model) N 13 (nI q0) (f7_lay (Z 0) Y model (nI q0) (ntOf model) N) 1) from by rw [← h87_0, juL, if_pos c_10])
                have e_Y : Yv = (juL (Z 0) (Z 1) model limit (ntOf model) N 13 (nI q0) (f7_lay (Z 0) Y model (nI q0) (ntOf model) N) 1).2 := congrArg (fun z => z.2) (show (nI q, Yv) = (juL (Z 0) (Z 1) model limit (ntOf model) N 13 (nI q0) (f7_lay (Z 0) Y model (nI q0) (ntOf model) N) 1) from by rw [← h87_0, juL, if_pos c_10])
                rw [e_q] at hl
                subst e_Y
                refine lv_iconst (v := 0) hx hb dX7_judge_236 (by decide) ?_
                refine lv_istore (lv' := [(6, .int 0), (0, .ref (a 0)), (1, .int model), (2, .int limit), (3, .int ((juL (Z 0) (Z 1) model limit (ntOf model) N 13 (nI q0) (f7_lay (Z 0) Y model (nI q0) (ntOf model) N) 1).1)), (4, .int (nI q0)), (5, .int mr)]) hx hb dX7_judge_237 hl (by decide) rfl (fun ls hl => ?_)
                refine xgen hP hS (fun H locs hP hS => ?_)
                obtain ⟨n239, j, O1, hinv⟩ : ∃ (n239 : Nat) (j : Nat) (O1 : Nat → Int32), (j + n239 = N) ∧ (joL (nI q0) ((juL (Z 0) (Z 1) model limit (ntOf model) N 13 (nI q0) (f7_lay (Z 0) Y model (nI q0) (ntOf model) N) 1).1) n239 j O1 = joL (nI q0) ((juL (Z 0) (Z 1) model limit (ntOf model) N 13 (nI q0) (f7_lay (Z 0) Y model (nI q0) (ntOf model) N) 1).1) N 0 (Z 3)) ∧ lv_has ls 8 [(0, .ref (a 0)), (1, .int model), (2, .int limit), (3, .int ((juL (Z 0) (Z 1) model limit (ntOf model) N 13 (nI q0) (f7_lay (Z 0) Y model (nI q0) (ntOf model) N) 1).1)), (4, .int (nI q0)), (6, .int (nI j))] ∧ va_P D vwCl [((a 0), .inr (7, [.int (Z 12 0), .ref (a 1), .ref (a 2), .ref (a 3), .ref (a 4), .int (Z 12 1), .ref (a 5), .ref (a 6), .ref (a 7), .ref (a 8), .ref (a 9), .int (Z 12 2), .ref (a 10), .int (Z 12 3), .int (Z 12 4), .ref (a 11), .ref (a 12), .long (((juL (Z 0) (Z 1) model limit (ntOf model) N 13 (nI q0) (f7_lay (Z 0) Y model (nI q0) (ntOf model) N) 1).2) 5 0), .ref (a 13), .ref (a 14), .ref (a 15), .ref (a 16), .ref (a 17)])), ((a 1), eI C 48 (Z 0)), ((a 2), eI C 24 (Z 1)), ((a 3), eZ C 12 (Z 2)), ((a 4), eZ C 12 O1), ((a 5), eI C 60 (Z 4)), ((a 6), eI C 60 (Z 5)), ((a 7), eI C 60 (Z 6)), ((a 8), eZ C 60 (Z 7)), ((a 9), eZ C 244 (Z 8)), ((a 10), eI C 24 (Z 9)), ((a 11), eJ C 9 (((juL (Z 0) (Z 1) model limit (ntOf model) N 13 (nI q0) (f7_lay (Z 0) Y model (nI q0) (ntOf model) N) 1).2) 0)), ((a 12), eJ C 9 (((juL (Z 0) (Z 1) model limit (ntOf model) N 13 (nI q0) (f7_lay (Z 0) Y model (nI q0) (ntOf model) N) 1).2) 1)), ((a 13), eJ C 3 (((juL (Z 0) (Z 1) model limit (ntOf model) N 13 (nI q0) (f7_lay (Z 0) Y model (nI q0) (ntOf model) N) 1).2) 2)), ((a 14), eJ C 3 (((juL (Z 0) (Z 1) model limit (ntOf model) N 13 (nI q0) (f7_lay (Z 0) Y model (nI q0) (ntOf model) N) 1).2) 3)), ((a 15), eJ C 12 (((juL (Z 0) (Z 1) model limit (ntOf model) N 13 (nI q0) (f7_lay (Z 0) Y model (nI q0) (ntOf model) N) 1).2) 4)), ((a 16), eI C 6 (Z 10)), ((a 17), eI C 4 (Z 11))] H ∧ va_D A [((a 0), .inr (7, [.int (Z 12 0), .ref (a 1), .ref (a 2), .ref (a 3), .ref (a 4), .int (Z 12 1), .ref (a 5), .ref (a 6), .ref (a 7), .ref (a 8), .ref (a 9), .int (Z 12 2), .ref (a 10), .int (Z 12 3), .int (Z 12 4), .ref (a 11), .ref (a 12), .long (((juL (Z 0) (Z 1) model limit (ntOf model) N 13 (nI q0) (f7_lay (Z 0) Y model (nI q0) (ntOf model) N) 1).2) 5 0), .ref (a 13), .ref (a 14), .ref (a 15), .ref (a 16), .ref (a 17)])), ((a 1), eI C 48 (Z 0)), ((a 2), eI C 24 (Z 1)), ((a 3), eZ C 12 (Z 2)), ((a 4), eZ C 12 O1), ((a 5), eI C 60 (Z 4)), ((a 6), eI C 60 (Z 5)), ((a 7), eI C 60 (Z 6)), ((a 8), eZ C 60 (Z 7)), ((a 9), eZ C 244 (Z 8)), ((a 10), eI C 24 (Z 9)), ((a 11), eJ C 9 (((juL (Z 0) (Z 1) model limit (ntOf model) N 13 (nI q0) (f7_lay (Z 0) Y model (nI q0) (ntOf model) N) 1).2) 0)), ((a 12), eJ C 9 (((juL (Z 0) (Z 1) model limit (ntOf model) N 13 (nI q0) (f7_lay (Z 0) Y model (nI q0) (ntOf model) N) 1).2) 1)), ((a 13), eJ C 3 (((juL (Z 0) (Z 1) model limit (ntOf model) N 13 (nI q0) (f7_lay (Z 0) Y model (nI q0) (ntOf model) N) 1).2) 2)), ((a 14), eJ C 3 (((juL (Z 0) (Z 1) model limit (ntOf model) N 13 (nI q0) (f7_lay (Z 0) Y model (nI q0) (ntOf model) N) 1).2) 3)), ((a 15), eJ C 12 (((juL (Z 0) (Z 1) model limit (ntOf model) N 13 (nI q0) (f7_lay (Z 0) Y model (nI q0) (ntOf model) N) 1).2) 4)), ((a 16), eI C 6 (Z 10)), ((a 17), eI C 4 (Z 11))] ∧ va_S A s.heap H locs := ⟨N, 0, (Z 3), by omega, rfl, lv_sub hl [1, 2, 3, 4, 5, 0] rfl, hP, hD, hS⟩
                clear hl hP hD hS
                induction n239 generalizing j O1 ls H locs with
                | zero =>
                  obtain ⟨h239_0, h239_1, hl, hP, hD, hS⟩ := hinv
                  refine lv_iload hx hb dX7_judge_239 (lv_at hl 5 rfl) ?_
                  refine lv_aload_n hx hb dX7_judge_241 rfl (lv_at hl 0 rfl) ?_
                  refine va_get (D := D) (ci := 7) (C := RX7) (T := TX7) (N := 23) hx hb hW inX7 hown hK hP 0 rfl rfl 0 (by decide) (hW _ (wa tw550 rfl)) (fun _ h9 => h9) rfl dX7_judge_242 ?_
                  refine lv_icmp_ge (tgt := 286) hx hb dX7_judge_245 (by decide) (fun c_11 => ?_) (fun c_11 => ?_)
                  · have e_O : O1 = joL (nI q0) ((juL (Z 0) (Z 1) model limit (ntOf model) N 13 (nI q0) (f7_lay (Z 0) Y model (nI q0) (ntOf model) N) 1).1) N 0 (Z 3) := h239_1
                    subst e_O
                    refine lv_iload hx hb dX7_judge_286 (lv_at hl 4 rfl) ?_
                    refine lv_iload_n hx hb dX7_judge_288 rfl (lv_at hl 3 rfl) ?_
                    refine lv_iconst (v := (-1)) hx hb dX7_judge_289 (by decide) ?_
                    refine lv_ixor hx hb dX7_judge_290 ?_
                    refine lv_iand hx hb dX7_judge_291 ?_
                    refine xri (r := f7_bits ((nI q0) &&& (((juL (Z 0) (Z 1) model limit (ntOf model) N 13 (nI q0) (f7_lay (Z 0) Y model (nI q0) (ntOf model) N) 1).1) ^^^ (-1)))) (rS (As := [.int ((nI q0) &&& (((juL (Z 0) (Z 1) model limit (ntOf model) N 13 (nI q0) (f7_lay (Z 0) Y model (nI q0) (ntOf model) N) 1).1) ^^^ (-1)))]) (n := 1) (rest := []) ⟨hx, hb, hml, hown, hW⟩ (kX7_bits l ((nI q0) &&& (((juL (Z 0) (Z 1) model limit (ntOf model) N 13 (nI q0) (f7_lay (Z 0) Y model (nI q0) (ntOf model) N) 1).1) ^^^ (-1)))) (wa tw667 rfl) (wa tw665 rfl) (wa tw666 rfl) (wa tw8 rfl) (by decide +kernel) ⟨Nat.le_of_ble_eq_true rfl, Nat.le_of_ble_eq_true rfl⟩ pS0 hl.1 rfl (Nat.le_of_ble_eq_true rfl) dX7_judge_292 ⟨Nat.le_of_ble_eq_true rfl, Nat.le_of_ble_eq_true rfl⟩ rfl rfl rfl) ?_
                    have hb_0 : (f7_judge_Z Z Y N q0 model limit) = uM Z 3 (joL (nI q0) ((juL (Z 0) (Z 1) model limit (ntOf model) N 13 (nI q0) (f7_lay (Z 0) Y model (nI q0) (ntOf model) N) 1).1) N 0 (Z 3)) := (by simp only [f7_judge, f7_judge_Z, f7_judge_Y, if_neg c_1, if_neg c_2, if_neg c_4])
                    have hb_1 : (f7_judge_Y Z Y N q0 model limit) = ((juL (Z 0) (Z 1) model limit (ntOf model) N 13 (nI q0) (f7_lay (Z 0) Y model (nI q0) (ntOf model) N) 1).2) := (by simp only [f7_judge, f7_judge_Z, f7_judge_Y, if_neg c_1, if_neg c_2, if_neg c_4])
                    have hP9 : va_P D vwCl ((wZ a C (f7_judge_Z Z Y N q0 model limit) (f7_judge_Y Z Y N q0 model limit))) H := by rw [hb_0, hb_1]; exact hP
                    have hD9 : va_D A ((wZ a C (f7_judge_Z Z Y N q0 model limit) (f7_judge_Y Z Y N q0 model limit))) := by rw [hb_0, hb_1]; exact hD
                    exact W.iret (v := f7_bits ((nI q0) &&& (((juL (Z 0) (Z 1) model limit (ntOf model) N 13 (nI q0) (f7_lay (Z 0) Y model (nI q0) (ntOf model) N) 1).1) ^^^ (-1)))) hx hb hr (fun t ht _ => ⟨⟨_, (), rfl, (by simp only [f7_judge, f7_judge_Z, f7_judge_Y, if_neg c_1, if_neg c_2, if_neg c_4]), ⟨by rw [ht]; exact hP9, by rw [hAe]; exact hD9⟩⟩, hS.F ht⟩) hS.2.2 dX7_judge_295
                  · exact absurd (q_le hN rfl (by omega) (by omega)) c_11
                | succ n239 ih239 =>
                  obtain ⟨h239_0, h239_1, hl, hP, hD, hS⟩ := hinv
                  refine lv_iload hx hb dX7_judge_239 (lv_at hl 5 rfl) ?_
                  refine lv_aload_n hx hb dX7_judge_241 rfl (lv_at hl 0 rfl) ?_
                  refine va_get (D := D) (ci := 7) (C := RX7) (T := TX7) (N := 23) hx hb hW inX7 hown hK hP 0 rfl rfl 0 (by decide) (hW _ (wa tw550 rfl)) (fun _ h9 => h9) rfl dX7_judge_242 ?_
                  refine lv_icmp_ge (tgt := 286) hx hb dX7_judge_245 (by decide) (fun c_12 => ?_) (fun c_12 => ?_)
                  · exact absurd c_12 (q_nle hN rfl (by omega) (by omega))
                  · refine lv_aload_n hx hb dX7_judge_248 rfl (lv_at hl 0 rfl) ?_
                    refine va_get (D := D) (ci := 7) (C := RX7) (T := TX7) (N := 23) hx hb hW inX7 hown hK hP 0 rfl rfl 4 (by decide) (hW _ (wa tw554 rfl)) (fun _ h9 => h9) rfl dX7_judge_249 ?_
                    refine lv_iload hx hb dX7_judge_252 (lv_at hl 5 rfl) ?_
                    refine lv_iload hx hb dX7_judge_254 (lv_at hl 4 rfl) ?_
                    refine lv_iload hx hb dX7_judge_256 (lv_at hl 5 rfl) ?_
                    refine lv_ishr hx hb dX7_judge_258 ?_
                    refine lv_iconst (v := 1) hx hb dX7_judge_259 (by decide) ?_
                    refine lv_iand hx hb dX7_judge_260 ?_
                    refine lv_iconst (v := 1) hx hb dX7_judge_261 (by decide) ?_
                    refine lv_icmp_ne (tgt := 278) hx hb dX7_judge_262 (by decide) (fun c_13 => ?_) (fun c_13 => ?_)
                    · refine lv_iconst (v := 0) hx hb dX7_judge_278 (by decide) ?_
                      refine xzast hx hb hK hP hD hS 4 rfl j rfl (by omega) (by decide) (by decide) dX7_judge_279 (fun H locs hP hD hS => ?_)
                      have hP : va_P D vwCl [((a 0), .inr (7, [.int (Z 12 0), .ref (a 1), .ref (a 2), .ref (a 3), .ref (a 4), .int (Z 12 1), .ref (a 5), .ref (a 6), .ref (a 7), .ref (a 8), .ref (a 9), .int (Z 12 2), .ref (a 10), .int (Z 12 3), .int (Z 12 4), .ref (a 11), .ref (a 12), .long (((juL (Z 0) (Z 1) model limit (ntOf model) N 13 (nI q0) (f7_lay (Z 0) Y model (nI q0) (ntOf model) N) 1).2) 5 0), .ref (a 13), .ref (a 14), .ref (a 15), .ref (a 16), .ref (a 17)])), ((a 1), eI C 48 (Z 0)), ((a 2), eI C 24 (Z 1)), ((a 3), eZ C 12 (Z 2)), ((a 4), eZ C 12 (upd O1 j 0)), ((a 5), eI C 60 (Z 4)), ((a 6), eI C 60 (Z 5)), ((a 7), eI C 60 (Z 6)), ((a 8), eZ C 60 (Z 7)), ((a 9), eZ C 244 (Z 8)), ((a 10), eI C 24 (Z 9)), ((a 11), eJ C 9 (((juL (Z 0) (Z 1) model limit (ntOf model) N 13 (nI q0) (f7_lay (Z 0) Y model (nI q0) (ntOf model) N) 1).2) 0)), ((a 12), eJ C 9 (((juL (Z 0) (Z 1) model limit (ntOf model) N 13 (nI q0) (f7_lay (Z 0) Y model (nI q0) (ntOf model) N) 1).2) 1)), ((a 13), eJ C 3 (((juL (Z 0) (Z 1) model limit (ntOf model) N 13 (nI q0) (f7_lay (Z 0) Y model (nI q0) (ntOf model) N) 1).2) 2)), ((a 14), eJ C 3 (((juL (Z 0) (Z 1) model limit (ntOf model) N 13 (nI q0) (f7_lay (Z 0) Y model (nI q0) (ntOf model) N) 1).2) 3)), ((a 15), eJ C 12 (((juL (Z 0) (Z 1) model limit (ntOf model) N 13 (nI q0) (f7_lay (Z 0) Y model (nI q0) (ntOf model) N) 1).2) 4)), ((a 16), eI C 6 (Z 10)), ((a 17), eI C 4 (Z 11))] H := hP
                      have hD : va_D A [((a 0), .inr (7, [.int (Z 12 0), .ref (a 1), .ref (a 2), .ref (a 3), .ref (a 4), .int (Z 12 1), .ref (a 5), .ref (a 6), .ref (a 7), .ref (a 8), .ref (a 9), .int (Z 12 2), .ref (a 10), .int (Z 12 3), .int (Z 12 4), .ref (a 11), .ref (a 12), .long (((juL (Z 0) (Z 1) model limit (ntOf model) N 13 (nI q0) (f7_lay (Z 0) Y model (nI q0) (ntOf model) N) 1).2) 5 0), .ref (a 13), .ref (a 14), .ref (a 15), .ref (a 16), .ref (a 17)])), ((a 1), eI C 48 (Z 0)), ((a 2), eI C 24 (Z 1)), ((a 3), eZ C 12 (Z 2)), ((a 4), eZ C 12 (upd O1 j 0)), ((a 5), eI C 60 (Z 4)), ((a 6), eI C 60 (Z 5)), ((a 7), eI C 60 (Z 6)), ((a 8), eZ C 60 (Z 7)), ((a 9), eZ C 244 (Z 8)), ((a 10), eI C 24 (Z 9)), ((a 11), eJ C 9 (((juL (Z 0) (Z 1) model limit (ntOf model) N 13 (nI q0) (f7_lay (Z 0) Y model (nI q0) (ntOf model) N) 1).2) 0)), ((a 12), eJ C 9 (((juL (Z 0) (Z 1) model limit (ntOf model) N 13 (nI q0) (f7_lay (Z 0) Y model (nI q0) (ntOf model) N) 1).2) 1)), ((a 13), eJ C 3 (((juL (Z 0) (Z 1) model limit (ntOf model) N 13 (nI q0) (f7_lay (Z 0) Y model (nI q0) (ntOf model) N) 1).2) 2)), ((a 14), eJ C 3 (((juL (Z 0) (Z 1) model limit (ntOf model) N 13 (nI q0) (f7_lay (Z 0) Y model (nI q0) (ntOf model) N) 1).2) 3)), ((a 15), eJ C 12 (((juL (Z 0) (Z 1) model limit (ntOf model) N 13 (nI q0) (f7_lay (Z 0) Y model (nI q0) (ntOf model) N) 1).2) 4)), ((a 16), eI C 6 (Z 10)), ((a 17), eI C 4 (Z 11))] := hD
                      refine lv_iinc (v := nI j + 1) (lv' := [(6, .int (nI j + 1)), (0, .ref (a 0)), (1, .int model), (2, .int limit), (3, .int ((juL (Z 0) (Z 1) model limit (ntOf model) N 13 (nI q0) (f7_lay (Z 0) Y model (nI q0) (ntOf model) N) 1).1)), (4, .int (nI q0))]) hx hb dX7_judge_280 hl (k := 5) rfl rfl (by decide) rfl (fun ls hl => ?_)
                      refine lv_goto (tgt := 239) hx hb dX7_judge_283 (by decide) ?_
                      rw [nI_1] at hl
                      exact ih239 (j := j + 1) (O1 := (upd O1 j 0)) (ls := ls) (H := H) (locs := locs) ⟨by omega, by rw [← h239_1, joL]; simp only [if_neg c_13], lv_sub hl [1, 2, 3, 4, 5, 0] rfl, hP, hD, hS⟩
                    · refine lv_iload_n hx hb dX7_judge_265 rfl (lv_at hl 3 rfl) ?_
                      refine lv_iload hx hb dX7_judge_266 (lv_at hl 5 rfl) ?_
                      refine lv_ishr hx hb dX7_judge_268 ?_
                      refine lv_iconst (v := 1) hx hb dX7_judge_269 (by decide) ?_
                      refine lv_iand hx hb dX7_judge_270 ?_
                      refine lv_if_ne (tgt := 278) hx hb dX7_judge_271 (by decide) (fun c_14 => ?_) (fun c_14 => ?_)
                      · refine lv_iconst (v := 0) hx hb dX7_judge_278 (by decide) ?_
                        refine xzast hx hb hK hP hD hS 4 rfl j rfl (by omega) (by decide) (by decide) dX7_judge_279 (fun H locs hP hD hS => ?_)
                        have hP : va_P D vwCl [((a 0), .inr (7, [.int (Z 12 0), .ref (a 1), .ref (a 2), .ref (a 3), .ref (a 4), .int (Z 12 1), .ref (a 5), .ref (a 6), .ref (a 7), .ref (a 8), .ref (a 9), .int (Z 12 2), .ref (a 10), .int (Z 12 3), .int (Z 12 4), .ref (a 11), .ref (a 12), .long (((juL (Z 0) (Z 1) model limit (ntOf model) N 13 (nI q0) (f7_lay (Z 0) Y model (nI q0) (ntOf model) N) 1).2) 5 0), .ref (a 13), .ref (a 14), .ref (a 15), .ref (a 16), .ref (a 17)])), ((a 1), eI C 48 (Z 0)), ((a 2), eI C 24 (Z 1)), ((a 3), eZ C 12 (Z 2)), ((a 4), eZ C 12 (upd O1 j 0)), ((a 5), eI C 60 (Z 4)), ((a 6), eI C 60 (Z 5)), ((a 7), eI C 60 (Z 6)), ((a 8), eZ C 60 (Z 7)), ((a 9), eZ C 244 (Z 8)), ((a 10), eI C 24 (Z 9)), ((a 11), eJ C 9 (((juL (Z 0) (Z 1) model limit (ntOf model) N 13 (nI q0) (f7_lay (Z 0) Y model (nI q0) (ntOf model) N) 1).2) 0)), ((a 12), eJ C 9 (((juL (Z 0) (Z 1) model limit (ntOf model) N 13 (nI q0) (f7_lay (Z 0) Y model (nI q0) (ntOf model) N) 1).2) 1)), ((a 13), eJ C 3 (((juL (Z 0) (Z 1) model limit (ntOf model) N 13 (nI q0) (f7_lay (Z 0) Y model (nI q0) (ntOf model) N) 1).2) 2)), ((a 14), eJ C 3 (((juL (Z 0) (Z 1) model limit (ntOf model) N 13 (nI q0) (f7_lay (Z 0) Y model (nI q0) (ntOf model) N) 1).2) 3)), ((a 15), eJ C 12 (((juL (Z 0) (Z 1) model limit (ntOf model) N 13 (nI q0) (f7_lay (Z 0) Y model (nI q0) (ntOf model) N) 1).2) 4)), ((a 16), eI C 6 (Z 10)), ((a 17), eI C 4 (Z 11))] H := hP
                        have hD : va_D A [((a 0), .inr (7, [.int (Z 12 0), .ref (a 1), .ref (a 2), .ref (a 3), .ref (a 4), .int (Z 12 1), .ref (a 5), .ref (a 6), .ref (a 7), .ref (a 8), .ref (a 9), .int (Z 12 2), .ref (a 10), .int (Z 12 3), .int (Z 12 4), .ref (a 11), .ref (a 12), .long (((juL (Z 0) (Z 1) model limit (ntOf model) N 13 (nI q0) (f7_lay (Z 0) Y model (nI q0) (ntOf model) N) 1).2) 5 0), .ref (a 13), .ref (a 14), .ref (a 15), .ref (a 16), .ref (a 17)])), ((a 1), eI C 48 (Z 0)), ((a 2), eI C 24 (Z 1)), ((a 3), eZ C 12 (Z 2)), ((a 4), eZ C 12 (upd O1 j 0)), ((a 5), eI C 60 (Z 4)), ((a 6), eI C 60 (Z 5)), ((a 7), eI C 60 (Z 6)), ((a 8), eZ C 60 (Z 7)), ((a 9), eZ C 244 (Z 8)), ((a 10), eI C 24 (Z 9)), ((a 11), eJ C 9 (((juL (Z 0) (Z 1) model limit (ntOf model) N 13 (nI q0) (f7_lay (Z 0) Y model (nI q0) (ntOf model) N) 1).2) 0)), ((a 12), eJ C 9 (((juL (Z 0) (Z 1) model limit (ntOf model) N 13 (nI q0) (f7_lay (Z 0) Y model (nI q0) (ntOf model) N) 1).2) 1)), ((a 13), eJ C 3 (((juL (Z 0) (Z 1) model limit (ntOf model) N 13 (nI q0) (f7_lay (Z 0) Y model (nI q0) (ntOf model) N) 1).2) 2)), ((a 14), eJ C 3 (((juL (Z 0) (Z 1) model limit (ntOf model) N 13 (nI q0) (f7_lay (Z 0) Y model (nI q0) (ntOf model) N) 1).2) 3)), ((a 15), eJ C 12 (((juL (Z 0) (Z 1) model limit (ntOf model) N 13 (nI q0) (f7_lay (Z 0) Y model (nI q0) (ntOf model) N) 1).2) 4)), ((a 16), eI C 6 (Z 10)), ((a 17), eI C 4 (Z 11))] := hD
                        refine lv_iinc (v := nI j + 1) (lv' := [(6, .int (nI j + 1)), (0, .ref (a 0)), (1, .int model), (2, .int limit), (3, .int ((juL (Z 0) (Z 1) model limit (ntOf model) N 13 (nI q0) (f7_lay (Z 0) Y model (nI q0) (ntOf model) N) 1).1)), (4, .int (nI q0))]) hx hb dX7_judge_280 hl (k := 5) rfl rfl (by decide) rfl (fun ls hl => ?_)
                        refine lv_goto (tgt := 239) hx hb dX7_judge_283 (by decide) ?_
                        rw [nI_1] at hl
                        exact ih239 (j := j + 1) (O1 := (upd O1 j 0)) (ls := ls) (H := H) (locs := locs) ⟨by omega, by rw [← h239_1, joL]; simp only [if_pos c_13, if_neg c_14], lv_sub hl [1, 2, 3, 4, 5, 0] rfl, hP, hD, hS⟩
                      · refine lv_iconst (v := 1) hx hb dX7_judge_274 (by decide) ?_
                        refine lv_goto (tgt := 279) hx hb dX7_judge_275 (by decide) ?_
                        refine xzast hx hb hK hP hD hS 4 rfl j rfl (by omega) (by decide) (by decide) dX7_judge_279 (fun H locs hP hD hS => ?_)
                        have hP : va_P D vwCl [((a 0), .inr (7, [.int (Z 12 0), .ref (a 1), .ref (a 2), .ref (a 3), .ref (a 4), .int (Z 12 1), .ref (a 5), .ref (a 6), .ref (a 7), .ref (a 8), .ref (a 9), .int (Z 12 2), .ref (a 10), .int (Z 12 3), .int (Z 12 4), .ref (a 11), .ref (a 12), .long (((juL (Z 0) (Z 1) model limit (ntOf model) N 13 (nI q0) (f7_lay (Z 0) Y model (nI q0) (ntOf model) N) 1).2) 5 0), .ref (a 13), .ref (a 14), .ref (a 15), .ref (a 16), .ref (a 17)])), ((a 1), eI C 48 (Z 0)), ((a 2), eI C 24 (Z 1)), ((a 3), eZ C 12 (Z 2)), ((a 4), eZ C 12 (upd O1 j 1)), ((a 5), eI C 60 (Z 4)), ((a 6), eI C 60 (Z 5)), ((a 7), eI C 60 (Z 6)), ((a 8), eZ C 60 (Z 7)), ((a 9), eZ C 244 (Z 8)), ((a 10), eI C 24 (Z 9)), ((a 11), eJ C 9 (((juL (Z 0) (Z 1) model limit (ntOf model) N 13 (nI q0) (f7_lay (Z 0) Y model (nI q0) (ntOf model) N) 1).2) 0)), ((a 12), eJ C 9 (((juL (Z 0) (Z 1) model limit (ntOf model) N 13 (nI q0) (f7_lay (Z 0) Y model (nI q0) (ntOf model) N) 1).2) 1)), ((a 13), eJ C 3 (((juL (Z 0) (Z 1) model limit (ntOf model) N 13 (nI q0) (f7_lay (Z 0) Y model (nI q0) (ntOf model) N) 1).2) 2)), ((a 14), eJ C 3 (((juL (Z 0) (Z 1) model limit (ntOf model) N 13 (nI q0) (f7_lay (Z 0) Y model (nI q0) (ntOf model) N) 1).2) 3)), ((a 15), eJ C 12 (((juL (Z 0) (Z 1) model limit (ntOf model) N 13 (nI q0) (f7_lay (Z 0) Y model (nI q0) (ntOf model) N) 1).2) 4)), ((a 16), eI C 6 (Z 10)), ((a 17), eI C 4 (Z 11))] H := hP
                        have hD : va_D A [((a 0), .inr (7, [.int (Z 12 0), .ref (a 1), .ref (a 2), .ref (a 3), .ref (a 4), .int (Z 12 1), .ref (a 5), .ref (a 6), .ref (a 7), .ref (a 8), .ref (a 9), .int (Z 12 2), .ref (a 10), .int (Z 12 3), .int (Z 12 4), .ref (a 11), .ref (a 12), .long (((juL (Z 0) (Z 1) model limit (ntOf model) N 13 (nI q0) (f7_lay (Z 0) Y model (nI q0) (ntOf model) N) 1).2) 5 0), .ref (a 13), .ref (a 14), .ref (a 15), .ref (a 16), .ref (a 17)])), ((a 1), eI C 48 (Z 0)), ((a 2), eI C 24 (Z 1)), ((a 3), eZ C 12 (Z 2)), ((a 4), eZ C 12 (upd O1 j 1)), ((a 5), eI C 60 (Z 4)), ((a 6), eI C 60 (Z 5)), ((a 7), eI C 60 (Z 6)), ((a 8), eZ C 60 (Z 7)), ((a 9), eZ C 244 (Z 8)), ((a 10), eI C 24 (Z 9)), ((a 11), eJ C 9 (((juL (Z 0) (Z 1) model limit (ntOf model) N 13 (nI q0) (f7_lay (Z 0) Y model (nI q0) (ntOf model) N) 1).2) 0)), ((a 12), eJ C 9 (((juL (Z 0) (Z 1) model limit (ntOf model) N 13 (nI q0) (f7_lay (Z 0) Y model (nI q0) (ntOf model) N) 1).2) 1)), ((a 13), eJ C 3 (((juL (Z 0) (Z 1) model limit (ntOf model) N 13 (nI q0) (f7_lay (Z 0) Y model (nI q0) (ntOf model) N) 1).2) 2)), ((a 14), eJ C 3 (((juL (Z 0) (Z 1) model limit (ntOf model) N 13 (nI q0) (f7_lay (Z 0) Y model (nI q0) (ntOf model) N) 1).2) 3)), ((a 15), eJ C 12 (((juL (Z 0) (Z 1) model limit (ntOf model) N 13 (nI q0) (f7_lay (Z 0) Y model (nI q0) (ntOf model) N) 1).2) 4)), ((a 16), eI C 6 (Z 10)), ((a 17), eI C 4 (Z 11))] := hD
                        refine lv_iinc (v := nI j + 1) (lv' := [(6, .int (nI j + 1)), (0, .ref (a 0)), (1, .int model), (2, .int limit), (3, .int ((juL (Z 0) (Z 1) model limit (ntOf model) N 13 (nI q0) (f7_lay (Z 0) Y model (nI q0) (ntOf model) N) 1).1)), (4, .int (nI q0))]) hx hb dX7_judge_280 hl (k := 5) rfl rfl (by decide) rfl (fun ls hl => ?_)
                        refine lv_goto (tgt := 239) hx hb dX7_judge_283 (by decide) ?_
                        rw [nI_1] at hl
                        exact ih239 (j := j + 1) (O1 := (upd O1 j 1)) (ls := ls) (H := H) (locs := locs) ⟨by omega, by rw [← h239_1, joL]; simp only [if_pos c_13, if_pos c_14], lv_sub hl [1, 2, 3, 4, 5, 0] rfl, hP, hD, hS⟩
              · refine lv_aload_n hx hb dX7_judge_92 rfl (lv_at hl 0 rfl) ?_
                refine lv_iload_n hx hb dX7_judge_93 rfl (lv_at hl 1 rfl) ?_
                refine lv_iload_n hx hb dX7_judge_94 rfl (lv_at hl 3 rfl) ?_
                refine xwv (wr := []) (rV (As := [.int model, .int (nI q)]) (n := 2) (rest := []) ⟨hx, hb, hml, hown, hW⟩ (kX7_findWorst l D C a Z Yv model (nI q) H.size N hN hN12 (ntOf model) (ntOf_eq _) (ntOf_13 _)) (wa tw732 rfl) (wa tw729 rfl) (wa tw731 rfl) (was ts46 rfl) (wa tw8 rfl) (by decide +kernel) ⟨Nat.le_of_ble_eq_true rfl, Nat.le_of_ble_eq_true rfl⟩ (pVw hP hD hK hNw 0 rfl rfl) hl.1 rfl (Nat.le_of_ble_eq_true rfl) dX7_judge_95 ⟨Nat.le_of_ble_eq_true rfl, Nat.le_of_ble_eq_true rfl⟩ rfl rfl rfl) hP hD hS hA [0, 1, 2, 3, 4, 5, 6, 7, 8, 9, 10, 11, 12, 13, 14, 15, 16, 17] [] rfl rfl (by decide) (by decide) (fun H locs hP hD hS => ?_)
                have hP : va_P D vwCl [((a 0), .inr (7, [.int (Z 12 0), .ref (a 1), .ref (a 2), .ref (a 3), .ref (a 4), .int (Z 12 1), .ref (a 5), .ref (a 6), .ref (a 7), .ref (a 8), .ref (a 9), .int (Z 12 2), .ref (a 10), .int (Z 12 3), .int (Z 12 4), .ref (a 11), .ref (a 12), .long ((f7_findWorst (Z 0) (Z 1) Yv model (nI q) (ntOf model) N) 5 0), .ref (a 13), .ref (a 14), .ref (a 15), .ref (a 16), .ref (a 17)])), ((a 1), eI C 48 (Z 0)), ((a 2), eI C 24 (Z 1)), ((a 3), eZ C 12 (Z 2)), ((a 4), eZ C 12 (Z 3)), ((a 5), eI C 60 (Z 4)), ((a 6), eI C 60 (Z 5)), ((a 7), eI C 60 (Z 6)), ((a 8), eZ C 60 (Z 7)), ((a 9), eZ C 244 (Z 8)), ((a 10), eI C 24 (Z 9)), ((a 11), eJ C 9 ((f7_findWorst (Z 0) (Z 1) Yv model (nI q) (ntOf model) N) 0)), ((a 12), eJ C 9 ((f7_findWorst (Z 0) (Z 1) Yv model (nI q) (ntOf model) N) 1)), ((a 13), eJ C 3 ((f7_findWorst (Z 0) (Z 1) Yv model (nI q) (ntOf model) N) 2)), ((a 14), eJ C 3 ((f7_findWorst (Z 0) (Z 1) Yv model (nI q) (ntOf model) N) 3)), ((a 15), eJ C 12 ((f7_findWorst (Z 0) (Z 1) Yv model (nI q) (ntOf model) N) 4)), ((a 16), eI C 6 (Z 10)), ((a 17), eI C 4 (Z 11))] H := hP
                have hD : va_D A [((a 0), .inr (7, [.int (Z 12 0), .ref (a 1), .ref (a 2), .ref (a 3), .ref (a 4), .int (Z 12 1), .ref (a 5), .ref (a 6), .ref (a 7), .ref (a 8), .ref (a 9), .int (Z 12 2), .ref (a 10), .int (Z 12 3), .int (Z 12 4), .ref (a 11), .ref (a 12), .long ((f7_findWorst (Z 0) (Z 1) Yv model (nI q) (ntOf model) N) 5 0), .ref (a 13), .ref (a 14), .ref (a 15), .ref (a 16), .ref (a 17)])), ((a 1), eI C 48 (Z 0)), ((a 2), eI C 24 (Z 1)), ((a 3), eZ C 12 (Z 2)), ((a 4), eZ C 12 (Z 3)), ((a 5), eI C 60 (Z 4)), ((a 6), eI C 60 (Z 5)), ((a 7), eI C 60 (Z 6)), ((a 8), eZ C 60 (Z 7)), ((a 9), eZ C 244 (Z 8)), ((a 10), eI C 24 (Z 9)), ((a 11), eJ C 9 ((f7_findWorst (Z 0) (Z 1) Yv model (nI q) (ntOf model) N) 0)), ((a 12), eJ C 9 ((f7_findWorst (Z 0) (Z 1) Yv model (nI q) (ntOf model) N) 1)), ((a 13), eJ C 3 ((f7_findWorst (Z 0) (Z 1) Yv model (nI q) (ntOf model) N) 2)), ((a 14), eJ C 3 ((f7_findWorst (Z 0) (Z 1) Yv model (nI q) (ntOf model) N) 3)), ((a 15), eJ C 12 ((f7_findWorst (Z 0) (Z 1) Yv model (nI q) (ntOf model) N) 4)), ((a 16), eI C 6 (Z 10)), ((a 17), eI C 4 (Z 11))] := hD
                refine lv_iconst (v := (-1)) hx hb dX7_judge_98 (by decide) ?_
                refine lv_istore (lv' := [(6, .int (-1)), (0, .ref (a 0)), (1, .int model), (2, .int limit), (3, .int (nI q)), (4, .int (nI q0)), (5, .int mr)]) hx hb dX7_judge_99 hl (by decide) rfl (fun ls hl => ?_)
                refine lv_iconst (v := 0) hx hb dX7_judge_101 (by decide) ?_
                refine lv_istore (lv' := [(7, .int 0), (6, .int (-1)), (0, .ref (a 0)), (1, .int model), (2, .int limit), (3, .int (nI q)), (4, .int (nI q0)), (5, .int mr)]) hx hb dX7_judge_102 hl (by decide) rfl (fun ls hl => ?_)
                obtain ⟨n104, j, b, hinv⟩ : ∃ (n104 : Nat) (j : Nat) (b : Int32), (j + n104 = N) ∧ (jlL ((f7_findWorst (Z 0) (Z 1) Yv model (nI q) (ntOf model) N) 4) (limit.toInt64 * (f7_findWorst (Z 0) (Z 1) Yv model (nI q) (ntOf model) N) 5 0) n104 j b = (jlL ((f7_findWorst (Z 0) (Z 1) Yv model (nI q) (ntOf model) N) 4) (limit.toInt64 * (f7_findWorst (Z 0) (Z 1) Yv model (nI q) (ntOf model) N) 5 0) N 0 (-1))) ∧ (b = -1 ∨ ∃ z : Nat, z < N ∧ b = nI z ∧ ¬ (f7_findWorst (Z 0) (Z 1) Yv model (nI q) (ntOf model) N) 4 z ≤ limit.toInt64 * (f7_findWorst (Z 0) (Z 1) Yv model (nI q) (ntOf model) N) 5 0) ∧ lv_has ls 8 [(0, .ref (a 0)), (1, .int model), (2, .int limit), (3, .int (nI q)), (4, .int (nI q0)), (5, .int mr), (6, .int b), (7, .int (nI j))] := ⟨N, 0, (-1), by omega, rfl, Or.inl rfl, lv_sub hl [2, 3, 4, 5, 6, 7, 1, 0] rfl⟩
                clear hl
                induction n104 generalizing j b ls with
                | zero =>
                  obtain ⟨h104_0, h104_1, h104_2, hl⟩ := hinv
                  refine lv_iload hx hb dX7_judge_104 (lv_at hl 7 rfl) ?_
                  refine lv_aload_n hx hb dX7_judge_106 rfl (lv_at hl 0 rfl) ?_
                  refine va_get (D := D) (ci := 7) (C := RX7) (T := TX7) (N := 23) hx hb hW inX7 hown hK hP 0 rfl rfl 0 (by decide) (hW _ (wa tw550 rfl)) (fun _ h9 => h9) rfl dX7_judge_107 ?_
                  refine lv_icmp_ge (tgt := 169) hx hb dX7_judge_110 (by decide) (fun c_15 => ?_) (fun c_15 => ?_)
                  · have e_b : b = jlL ((f7_findWorst (Z 0) (Z 1) Yv model (nI q) (ntOf model) N) 4) (limit.toInt64 * (f7_findWorst (Z 0) (Z 1) Yv model (nI q) (ntOf model) N) 5 0) N 0 (-1) := h104_1
                    subst e_b
                    refine lv_iload hx hb dX7_judge_169 (lv_at hl 6 rfl) ?_
                    refine lv_if_lt (tgt := 178) hx hb dX7_judge_171 (by decide) (fun c_16 => ?_) (fun c_16 => ?_)
                    · refine lv_iconst (v := 0) hx hb dX7_judge_178 (by decide) ?_
                      refine lv_istore (lv' := [(5, .int 0), (0, .ref (a 0)), (1, .int model), (2, .int limit), (3, .int (nI q)), (4, .int (nI q0)), (6, .int (jlL ((f7_findWorst (Z 0) (Z 1) Yv model (nI q) (ntOf model) N) 4) (limit.toInt64 * (f7_findWorst (Z 0) (Z 1) Yv model (nI q) (ntOf model) N) 5 0) N 0 (-1))), (7, .int (nI j))]) hx hb dX7_judge_179 hl (by decide) rfl (fun ls hl => ?_)
                      refine lv_iload hx hb dX7_judge_181 (lv_at hl 0 rfl) ?_
                      refine lv_if_eq (tgt := 233) hx hb dX7_judge_183 (by decide) (fun c_17 => ?_) (fun c_17 => ?_)
                      · refine lv_goto (tgt := 87) hx hb dX7_judge_233 (by decide) ?_
                        exact ih87 (q := q) (mr := 0) (Yv := (f7_findWorst (Z 0) (Z 1) Yv model (nI q) (ntOf model) N)) (ls := ls) (H := H) (locs := locs) ⟨by rw [← h87_0, juL, if_neg c_10, if_pos c_16], h87_1, Or.inl rfl, lv_sub hl [1, 2, 3, 4, 5, 0] rfl, hP, hD, hS⟩
                      · exact absurd (by decide) c_17
                    · refine lv_iconst (v := 1) hx hb dX7_judge_174 (by decide) ?_
                      refine lv_goto (tgt := 179) hx hb dX7_judge_175 (by decide) ?_
                      refine lv_istore (lv' := [(5, .int 1), (0, .ref (a 0)), (1, .int model), (2, .int limit), (3, .int (nI q)), (4, .int (nI q0)), (6, .int (jlL ((f7_findWorst (Z 0) (Z 1) Yv model (nI q) (ntOf model) N) 4) (limit.toInt64 * (f7_findWorst (Z 0) (Z 1) Yv model (nI q) (ntOf model) N) 5 0) N 0 (-1))), (7, .int (nI j))]) hx hb dX7_judge_179 hl (by decide) rfl (fun ls hl => ?_)
                      refine lv_iload hx hb dX7_judge_181 (lv_at hl 0 rfl) ?_
                      refine lv_if_eq (tgt := 233) hx hb dX7_judge_183 (by decide) (fun c_18 => ?_) (fun c_18 => ?_)
                      · exact absurd c_18 (by decide)
                      · refine lv_aload_n hx hb dX7_judge_186 rfl (lv_at hl 1 rfl) ?_
                        refine lv_iload_n hx hb dX7_judge_187 rfl (lv_at hl 2 rfl) ?_
                        refine lv_iload_n hx hb dX7_judge_188 rfl (lv_at hl 4 rfl) ?_
                        refine lv_iconst (v := 1) hx hb dX7_judge_189 (by decide) ?_
                        refine lv_iload hx hb dX7_judge_190 (lv_at hl 6 rfl) ?_
                        refine lv_ishl hx hb dX7_judge_192 ?_
                        refine lv_iconst (v := (-1)) hx hb dX7_judge_193 (by decide) ?_
                        refine lv_ixor hx hb dX7_judge_194 ?_
                        refine lv_iand hx hb dX7_judge_195 ?_
                        refine xwv (wr := []) (rV (As := [.int model, .int ((nI q) &&& (((1 : Int32) <<< ((jlL ((f7_findWorst (Z 0) (Z 1) Yv model (nI q) (ntOf model) N) 4) (limit.toInt64 * (f7_findWorst (Z 0) (Z 1) Yv model (nI q) (ntOf model) N) 5 0) N 0 (-1)) &&& 31)) ^^^ (-1)))]) (n := 2) (rest := []) ⟨hx, hb, hml, hown, hW⟩ (kX7_lay l D C a Z (f7_findWorst (Z 0) (Z 1) Yv model (nI q) (ntOf model) N) model ((nI q) &&& (((1 : Int32) <<< ((jlL ((f7_findWorst (Z 0) (Z 1) Yv model (nI q) (ntOf model) N) 4) (limit.toInt64 * (f7_findWorst (Z 0) (Z 1) Yv model (nI q) (ntOf model) N) 5 0) N 0 (-1)) &&& 31)) ^^^ (-1))) H.size N hN hN12 (ntOf model) (ntOf_eq _) (ntOf_13 _)) (wa tw684 rfl) (wa tw681 rfl) (wa tw683 rfl) (was ts41 rfl) (wa tw8 rfl) (by decide +kernel) ⟨Nat.le_of_ble_eq_true rfl, Nat.le_of_ble_eq_true rfl⟩ (pVw hP hD hK hNw 0 rfl rfl) hl.1 rfl (Nat.le_of_ble_eq_true rfl) dX7_judge_196 ⟨Nat.le_of_ble_eq_true rfl, Nat.le_of_ble_eq_true rfl⟩ rfl rfl rfl) hP hD hS hA [0, 1, 2, 3, 4, 5, 6, 7, 8, 9, 10, 11, 12, 13, 14, 15, 16, 17] [] rfl rfl (by decide) (by decide) (fun H locs hP hD hS => ?_)
                        have hP : va_P D vwCl [((a 0), .inr (7, [.int (Z 12 0), .ref (a 1), .ref (a 2), .ref (a 3), .ref (a 4), .int (Z 12 1), .ref (a 5), .ref (a 6), .ref (a 7), .ref (a 8), .ref (a 9), .int (Z 12 2), .ref (a 10), .int (Z 12 3), .int (Z 12 4), .ref (a 11), .ref (a 12), .long ((f7_lay (Z 0) (f7_findWorst (Z 0) (Z 1) Yv model (nI q) (ntOf model) N) model ((nI q) &&& (((1 : Int32) <<< ((jlL ((f7_findWorst (Z 0) (Z 1) Yv model (nI q) (ntOf model) N) 4) (limit.toInt64 * (f7_findWorst (Z 0) (Z 1) Yv model (nI q) (ntOf model) N) 5 0) N 0 (-1)) &&& 31)) ^^^ (-1))) (ntOf model) N) 5 0), .ref (a 13), .ref (a 14), .ref (a 15), .ref (a 16), .ref (a 17)])), ((a 1), eI C 48 (Z 0)), ((a 2), eI C 24 (Z 1)), ((a 3), eZ C 12 (Z 2)), ((a 4), eZ C 12 (Z 3)), ((a 5), eI C 60 (Z 4)), ((a 6), eI C 60 (Z 5)), ((a 7), eI C 60 (Z 6)), ((a 8), eZ C 60 (Z 7)), ((a 9), eZ C 244 (Z 8)), ((a 10), eI C 24 (Z 9)), ((a 11), eJ C 9 ((f7_lay (Z 0) (f7_findWorst (Z 0) (Z 1) Yv model (nI q) (ntOf model) N) model ((nI q) &&& (((1 : Int32) <<< ((jlL ((f7_findWorst (Z 0) (Z 1) Yv model (nI q) (ntOf model) N) 4) (limit.toInt64 * (f7_findWorst (Z 0) (Z 1) Yv model (nI q) (ntOf model) N) 5 0) N 0 (-1)) &&& 31)) ^^^ (-1))) (ntOf model) N) 0)), ((a 12), eJ C 9 ((f7_lay (Z 0) (f7_findWorst (Z 0) (Z 1) Yv model (nI q) (ntOf model) N) model ((nI q) &&& (((1 : Int32) <<< ((jlL ((f7_findWorst (Z 0) (Z 1) Yv model (nI q) (ntOf model) N) 4) (limit.toInt64 * (f7_findWorst (Z 0) (Z 1) Yv model (nI q) (ntOf model) N) 5 0) N 0 (-1)) &&& 31)) ^^^ (-1))) (ntOf model) N) 1)), ((a 13), eJ C 3 ((f7_lay (Z 0) (f7_findWorst (Z 0) (Z 1) Yv model (nI q) (ntOf model) N) model ((nI q) &&& (((1 : Int32) <<< ((jlL ((f7_findWorst (Z 0) (Z 1) Yv model (nI q) (ntOf model) N) 4) (limit.toInt64 * (f7_findWorst (Z 0) (Z 1) Yv model (nI q) (ntOf model) N) 5 0) N 0 (-1)) &&& 31)) ^^^ (-1))) (ntOf model) N) 2)), ((a 14), eJ C 3 ((f7_lay (Z 0) (f7_findWorst (Z 0) (Z 1) Yv model (nI q) (ntOf model) N) model ((nI q) &&& (((1 : Int32) <<< ((jlL ((f7_findWorst (Z 0) (Z 1) Yv model (nI q) (ntOf model) N) 4) (limit.toInt64 * (f7_findWorst (Z 0) (Z 1) Yv model (nI q) (ntOf model) N) 5 0) N 0 (-1)) &&& 31)) ^^^ (-1))) (ntOf model) N) 3)), ((a 15), eJ C 12 ((f7_lay (Z 0) (f7_findWorst (Z 0) (Z 1) Yv model (nI q) (ntOf model) N) model ((nI q) &&& (((1 : Int32) <<< ((jlL ((f7_findWorst (Z 0) (Z 1) Yv model (nI q) (ntOf model) N) 4) (limit.toInt64 * (f7_findWorst (Z 0) (Z 1) Yv model (nI q) (ntOf model) N) 5 0) N 0 (-1)) &&& 31)) ^^^ (-1))) (ntOf model) N) 4)), ((a 16), eI C 6 (Z 10)), ((a 17), eI C 4 (Z 11))] H := hP
                        have hD : va_D A [((a 0), .inr (7, [.int (Z 12 0), .ref (a 1), .ref (a 2), .ref (a 3), .ref (a 4), .int (Z 12 1), .ref (a 5), .ref (a 6), .ref (a 7), .ref (a 8), .ref (a 9), .int (Z 12 2), .ref (a 10), .int (Z 12 3), .int (Z 12 4), .ref (a 11), .ref (a 12), .long ((f7_lay (Z 0) (f7_findWorst (Z 0) (Z 1) Yv model (nI q) (ntOf model) N) model ((nI q) &&& (((1 : Int32) <<< ((jlL ((f7_findWorst (Z 0) (Z 1) Yv model (nI q) (ntOf model) N) 4) (limit.toInt64 * (f7_findWorst (Z 0) (Z 1) Yv model (nI q) (ntOf model) N) 5 0) N 0 (-1)) &&& 31)) ^^^ (-1))) (ntOf model) N) 5 0), .ref (a 13), .ref (a 14), .ref (a 15), .ref (a 16), .ref (a 17)])), ((a 1), eI C 48 (Z 0)), ((a 2), eI C 24 (Z 1)), ((a 3), eZ C 12 (Z 2)), ((a 4), eZ C 12 (Z 3)), ((a 5), eI C 60 (Z 4)), ((a 6), eI C 60 (Z 5)), ((a 7), eI C 60 (Z 6)), ((a 8), eZ C 60 (Z 7)), ((a 9), eZ C 244 (Z 8)), ((a 10), eI C 24 (Z 9)), ((a 11), eJ C 9 ((f7_lay (Z 0) (f7_findWorst (Z 0) (Z 1) Yv model (nI q) (ntOf model) N) model ((nI q) &&& (((1 : Int32) <<< ((jlL ((f7_findWorst (Z 0) (Z 1) Yv model (nI q) (ntOf model) N) 4) (limit.toInt64 * (f7_findWorst (Z 0) (Z 1) Yv model (nI q) (ntOf model) N) 5 0) N 0 (-1)) &&& 31)) ^^^ (-1))) (ntOf model) N) 0)), ((a 12), eJ C 9 ((f7_lay (Z 0) (f7_findWorst (Z 0) (Z 1) Yv model (nI q) (ntOf model) N) model ((nI q) &&& (((1 : Int32) <<< ((jlL ((f7_findWorst (Z 0) (Z 1) Yv model (nI q) (ntOf model) N) 4) (limit.toInt64 * (f7_findWorst (Z 0) (Z 1) Yv model (nI q) (ntOf model) N) 5 0) N 0 (-1)) &&& 31)) ^^^ (-1))) (ntOf model) N) 1)), ((a 13), eJ C 3 ((f7_lay (Z 0) (f7_findWorst (Z 0) (Z 1) Yv model (nI q) (ntOf model) N) model ((nI q) &&& (((1 : Int32) <<< ((jlL ((f7_findWorst (Z 0) (Z 1) Yv model (nI q) (ntOf model) N) 4) (limit.toInt64 * (f7_findWorst (Z 0) (Z 1) Yv model (nI q) (ntOf model) N) 5 0) N 0 (-1)) &&& 31)) ^^^ (-1))) (ntOf model) N) 2)), ((a 14), eJ C 3 ((f7_lay (Z 0) (f7_findWorst (Z 0) (Z 1) Yv model (nI q) (ntOf model) N) model ((nI q) &&& (((1 : Int32) <<< ((jlL ((f7_findWorst (Z 0) (Z 1) Yv model (nI q) (ntOf model) N) 4) (limit.toInt64 * (f7_findWorst (Z 0) (Z 1) Yv model (nI q) (ntOf model) N) 5 0) N 0 (-1)) &&& 31)) ^^^ (-1))) (ntOf model) N) 3)), ((a 15), eJ C 12 ((f7_lay (Z 0) (f7_findWorst (Z 0) (Z 1) Yv model (nI q) (ntOf model) N) model ((nI q) &&& (((1 : Int32) <<< ((jlL ((f7_findWorst (Z 0) (Z 1) Yv model (nI q) (ntOf model) N) 4) (limit.toInt64 * (f7_findWorst (Z 0) (Z 1) Yv model (nI q) (ntOf model) N) 5 0) N 0 (-1)) &&& 31)) ^^^ (-1))) (ntOf model) N) 4)), ((a 16), eI C 6 (Z 10)), ((a 17), eI C 4 (Z 11))] := hD
                        refine lv_aload_n hx hb dX7_judge_199 rfl (lv_at hl 1 rfl) ?_
                        refine va_get (D := D) (ci := 7) (C := RX7) (T := TX7) (N := 23) hx hb hW inX7 hown hK hP 0 rfl rfl 17 (by decide) (hW _ (wa tw567 rfl)) (fun _ h9 => h9) rfl dX7_judge_200 ?_
                        refine lv_lconst (v := 0) hx hb dX7_judge_203 (by decide) ?_
                        refine xlcmp_eq (tgt := 212) hx hb dX7_judge_204 dX7_judge_205 (by decide) (fun c_19 => ?_) (fun c_19 => ?_)
                        · refine lv_iconst (v := 0) hx hb dX7_judge_212 (by decide) ?_
                          refine lv_istore (lv' := [(5, .int 0), (0, .ref (a 0)), (1, .int model), (2, .int limit), (3, .int (nI q)), (4, .int (nI q0)), (6, .int (jlL ((f7_findWorst (Z 0) (Z 1) Yv model (nI q) (ntOf model) N) 4) (limit.toInt64 * (f7_findWorst (Z 0) (Z 1) Yv model (nI q) (ntOf model) N) 5 0) N 0 (-1))), (7, .int (nI j))]) hx hb dX7_judge_213 hl (by decide) rfl (fun ls hl => ?_)
                          refine lv_iload hx hb dX7_judge_215 (lv_at hl 0 rfl) ?_
                          refine lv_if_eq (tgt := 231) hx hb dX7_judge_217 (by decide) (fun c_20 => ?_) (fun c_20 => ?_)
                          · refine lv_iload_n hx hb dX7_judge_231 rfl (lv_at hl 4 rfl) ?_
                            refine lv_istore_n (lv' := [(3, .int (nI q)), (5, .int 0), (0, .ref (a 0)), (1, .int model), (2, .int limit), (4, .int (nI q0)), (6, .int (jlL ((f7_findWorst (Z 0) (Z 1) Yv model (nI q) (ntOf model) N) 4) (limit.toInt64 * (f7_findWorst (Z 0) (Z 1) Yv model (nI q) (ntOf model) N) 5 0) N 0 (-1))), (7, .int (nI j))]) hx hb dX7_judge_232 rfl hl (by decide) rfl (fun ls hl => ?_)
                            refine lv_goto (tgt := 87) hx hb dX7_judge_233 (by decide) ?_
                            exact ih87 (q := q) (mr := 0) (Yv := (f7_lay (Z 0) (f7_findWorst (Z 0) (Z 1) Yv model (nI q) (ntOf model) N) model ((nI q) &&& (((1 : Int32) <<< ((jlL ((f7_findWorst (Z 0) (Z 1) Yv model (nI q) (ntOf model) N) 4) (limit.toInt64 * (f7_findWorst (Z 0) (Z 1) Yv model (nI q) (ntOf model) N) 5 0) N 0 (-1)) &&& 31)) ^^^ (-1))) (ntOf model) N)) (ls := ls) (H := H) (locs := locs) ⟨by rw [← h87_0, juL, if_neg c_10, if_neg c_16, if_pos c_19], h87_1, Or.inl rfl, lv_sub hl [2, 3, 4, 0, 5, 1] rfl, hP, hD, hS⟩
                          · exact absurd (by decide) c_20
                        · refine lv_iconst (v := 1) hx hb dX7_judge_208 (by decide) ?_
                          refine lv_goto (tgt := 213) hx hb dX7_judge_209 (by decide) ?_
                          refine lv_istore (lv' := [(5, .int 1), (0, .ref (a 0)), (1, .int model), (2, .int limit), (3, .int (nI q)), (4, .int (nI q0)), (6, .int (jlL ((f7_findWorst (Z 0) (Z 1) Yv model (nI q) (ntOf model) N) 4) (limit.toInt64 * (f7_findWorst (Z 0) (Z 1) Yv model (nI q) (ntOf model) N) 5 0) N 0 (-1))), (7, .int (nI j))]) hx hb dX7_judge_213 hl (by decide) rfl (fun ls hl => ?_)
                          refine lv_iload hx hb dX7_judge_215 (lv_at hl 0 rfl) ?_
                          refine lv_if_eq (tgt := 231) hx hb dX7_judge_217 (by decide) (fun c_21 => ?_) (fun c_21 => ?_)
                          · exact absurd c_21 (by decide)
                          · refine lv_iload_n hx hb dX7_judge_220 rfl (lv_at hl 4 rfl) ?_
                            refine lv_iconst (v := 1) hx hb dX7_judge_221 (by decide) ?_
                            refine lv_iload hx hb dX7_judge_222 (lv_at hl 6 rfl) ?_
                            refine lv_ishl hx hb dX7_judge_224 ?_
                            refine lv_iconst (v := (-1)) hx hb dX7_judge_225 (by decide) ?_
                            refine lv_ixor hx hb dX7_judge_226 ?_
                            refine lv_iand hx hb dX7_judge_227 ?_
                            refine lv_goto (tgt := 232) hx hb dX7_judge_228 (by decide) ?_
                            refine lv_istore_n (lv' := [(3, .int ((nI q) &&& (((1 : Int32) <<< ((jlL ((f7_findWorst (Z 0) (Z 1) Yv model (nI q) (ntOf model) N) 4) (limit.toInt64 * (f7_findWorst (Z 0) (Z 1) Yv model (nI q) (ntOf model) N) 5 0) N 0 (-1)) &&& 31)) ^^^ (-1)))), (5, .int 1), (0, .ref (a 0)), (1, .int model), (2, .int limit), (4, .int (nI q0)), (6, .int (jlL ((f7_findWorst (Z 0) (Z 1) Yv model (nI q) (ntOf model) N) 4) (limit.toInt64 * (f7_findWorst (Z 0) (Z 1) Yv model (nI q) (ntOf model) N) 5 0) N 0 (-1))), (7, .int (nI j))]) hx hb dX7_judge_232 rfl hl (by decide) rfl (fun ls hl => ?_)
                            refine lv_goto (tgt := 87) hx hb dX7_judge_233 (by decide) ?_
                            obtain ⟨jj, hjj, ejj, hjl⟩ := h104_2.resolve_left (fun z => absurd (by rw [z]; decide) c_16)
                            have hbit := liar_bit hSM hmod h87_1 hjj Yv hlim.1 hlim.2 hjl
                            have hqn : (nI q) &&& (((1 : Int32) <<< ((jlL ((f7_findWorst (Z 0) (Z 1) Yv model (nI q) (ntOf model) N) 4) (limit.toInt64 * (f7_findWorst (Z 0) (Z 1) Yv model (nI q) (ntOf model) N) 5 0) N 0 (-1)) &&& 31)) ^^^ (-1)) = nI (adf q (2 ^ jj)) := by rw [ejj, q_shl1 jj (by omega), g_andn h87_1]
                            have hdrop := ctm_drop hbit 12 (by omega)
                            rw [if_pos (show jj < 12 by omega)] at hdrop
                            have hlt2 : ctm (fun i => q.testBit i) 12 < n87 + 1 := (h87_2.resolve_left c_10).2
                            rw [hqn] at hl
                            exact ih87 (q := (adf q (2 ^ jj))) (mr := 1) (Yv := (f7_lay (Z 0) (f7_findWorst (Z 0) (Z 1) Yv model (nI q) (ntOf model) N) model ((nI q) &&& (((1 : Int32) <<< ((jlL ((f7_findWorst (Z 0) (Z 1) Yv model (nI q) (ntOf model) N) 4) (limit.toInt64 * (f7_findWorst (Z 0) (Z 1) Yv model (nI q) (ntOf model) N) 5 0) N 0 (-1)) &&& 31)) ^^^ (-1))) (ntOf model) N)) (ls := ls) (H := H) (locs := locs) ⟨by rw [← hqn, ← h87_0, juL, if_neg c_10, if_neg c_16, if_neg c_19], Nat.lt_of_le_of_lt Nat.and_le_left h87_1, Or.inr ⟨rfl, by omega⟩, lv_sub hl [2, 3, 4, 0, 5, 1] rfl, hP, hD, hS⟩
                  · exact absurd (q_le hN rfl (by omega) (by omega)) c_15
                | succ n104 ih104 =>
                  obtain ⟨h104_0, h104_1, h104_2, hl⟩ := hinv
                  refine lv_iload hx hb dX7_judge_104 (lv_at hl 7 rfl) ?_
                  refine lv_aload_n hx hb dX7_judge_106 rfl (lv_at hl 0 rfl) ?_
                  refine va_get (D := D) (ci := 7) (C := RX7) (T := TX7) (N := 23) hx hb hW inX7 hown hK hP 0 rfl rfl 0 (by decide) (hW _ (wa tw550 rfl)) (fun _ h9 => h9) rfl dX7_judge_107 ?_
                  refine lv_icmp_ge (tgt := 169) hx hb dX7_judge_110 (by decide) (fun c_22 => ?_) (fun c_22 => ?_)
                  · exact absurd c_22 (q_nle hN rfl (by omega) (by omega))
                  · refine lv_aload_n hx hb dX7_judge_113 rfl (lv_at hl 0 rfl) ?_
                    refine va_get (D := D) (ci := 7) (C := RX7) (T := TX7) (N := 23) hx hb hW inX7 hown hK hP 0 rfl rfl 20 (by decide) (hW _ (wa tw570 rfl)) (fun _ h9 => h9) rfl dX7_judge_114 ?_
                    refine lv_iload hx hb dX7_judge_117 (lv_at hl 7 rfl) ?_
                    refine xlald hx hb hK hP 15 rfl j rfl (by omega) (by decide) dX7_judge_119 ?_
                    refine lv_iload_n hx hb dX7_judge_120 rfl (lv_at hl 2 rfl) ?_
                    refine lv_i2l (v := limit.toInt64) hx hb dX7_judge_121 rfl ?_
                    refine lv_aload_n hx hb dX7_judge_122 rfl (lv_at hl 0 rfl) ?_
                    refine va_get (D := D) (ci := 7) (C := RX7) (T := TX7) (N := 23) hx hb hW inX7 hown hK hP 0 rfl rfl 17 (by decide) (hW _ (wa tw567 rfl)) (fun _ h9 => h9) rfl dX7_judge_123 ?_
                    refine lv_lmul hx hb dX7_judge_126 ?_
                    refine xlcmp_le (tgt := 159) hx hb dX7_judge_127 dX7_judge_128 (by decide) (fun c_23 => ?_) (fun c_23 => ?_)
                    · refine lv_iload hx hb dX7_judge_159 (lv_at hl 6 rfl) ?_
                      refine lv_istore (lv' := [(6, .int b), (0, .ref (a 0)), (1, .int model), (2, .int limit), (3, .int (nI q)), (4, .int (nI q0)), (5, .int mr), (7, .int (nI j))]) hx hb dX7_judge_161 hl (by decide) rfl (fun ls hl => ?_)
                      refine lv_iinc (v := nI j + 1) (lv' := [(7, .int (nI j + 1)), (6, .int b), (0, .ref (a 0)), (1, .int model), (2, .int limit), (3, .int (nI q)), (4, .int (nI q0)), (5, .int mr)]) hx hb dX7_judge_163 hl (k := 7) rfl rfl (by decide) rfl (fun ls hl => ?_)
                      refine lv_goto (tgt := 104) hx hb dX7_judge_166 (by decide) ?_
                      rw [nI_1] at hl
                      exact ih104 (j := j + 1) (b := b) (ls := ls) ⟨by omega, by rw [← h104_1, jlL]; simp only [if_pos c_23], h104_2, lv_sub hl [2, 3, 4, 5, 6, 7, 1, 0] rfl⟩
                    · refine lv_iload hx hb dX7_judge_131 (lv_at hl 6 rfl) ?_
                      refine lv_if_lt (tgt := 154) hx hb dX7_judge_133 (by decide) (fun c_24 => ?_) (fun c_24 => ?_)
                      · refine lv_iload hx hb dX7_judge_154 (lv_at hl 7 rfl) ?_
                        refine lv_goto (tgt := 161) hx hb dX7_judge_156 (by decide) ?_
                        refine lv_istore (lv' := [(6, .int (nI j)), (0, .ref (a 0)), (1, .int model), (2, .int limit), (3, .int (nI q)), (4, .int (nI q0)), (5, .int mr), (7, .int (nI j))]) hx hb dX7_judge_161 hl (by decide) rfl (fun ls hl => ?_)
                        refine lv_iinc (v := nI j + 1) (lv' := [(7, .int (nI j + 1)), (6, .int (nI j)), (0, .ref (a 0)), (1, .int model), (2, .int limit), (3, .int (nI q)), (4, .int (nI q0)), (5, .int mr)]) hx hb dX7_judge_163 hl (k := 7) rfl rfl (by decide) rfl (fun ls hl => ?_)
                        refine lv_goto (tgt := 104) hx hb dX7_judge_166 (by decide) ?_
                        rw [nI_1] at hl
                        exact ih104 (j := j + 1) (b := (nI j)) (ls := ls) ⟨by omega, by rw [← h104_1, jlL]; simp only [if_neg c_23, if_pos c_24], Or.inr ⟨j, by omega, rfl, c_23⟩, lv_sub hl [2, 3, 4, 5, 6, 7, 1, 0] rfl⟩
                      · have hbx : b = nI (ix b) ∧ ix b < 12 := by rcases h104_2 with z | ⟨jb, hjb, ejb, -⟩; (exact absurd (by rw [z]; decide) c_24); (rw [ejb, ix_nI (by omega)]; exact ⟨rfl, by omega⟩)
                        have hbx2 := hbx.2
                        refine lv_aload_n hx hb dX7_judge_136 rfl (lv_at hl 0 rfl) ?_
                        refine va_get (D := D) (ci := 7) (C := RX7) (T := TX7) (N := 23) hx hb hW inX7 hown hK hP 0 rfl rfl 20 (by decide) (hW _ (wa tw570 rfl)) (fun _ h9 => h9) rfl dX7_judge_137 ?_
                        refine lv_iload hx hb dX7_judge_140 (lv_at hl 7 rfl) ?_
                        refine xlald hx hb hK hP 15 rfl j rfl (by omega) (by decide) dX7_judge_142 ?_
                        refine lv_aload_n hx hb dX7_judge_143 rfl (lv_at hl 0 rfl) ?_
                        refine va_get (D := D) (ci := 7) (C := RX7) (T := TX7) (N := 23) hx hb hW inX7 hown hK hP 0 rfl rfl 20 (by decide) (hW _ (wa tw570 rfl)) (fun _ h9 => h9) rfl dX7_judge_144 ?_
                        refine lv_iload hx hb dX7_judge_147 (lv_at hl 6 rfl) ?_
                        refine xlald hx hb hK hP 15 rfl (ix b) hbx.1 (by omega) (by decide) dX7_judge_149 ?_
                        refine xlcmp_le (tgt := 159) hx hb dX7_judge_150 dX7_judge_151 (by decide) (fun c_25 => ?_) (fun c_25 => ?_)
                        · refine lv_iload hx hb dX7_judge_159 (lv_at hl 6 rfl) ?_
                          refine lv_istore (lv' := [(6, .int b), (0, .ref (a 0)), (1, .int model), (2, .int limit), (3, .int (nI q)), (4, .int (nI q0)), (5, .int mr), (7, .int (nI j))]) hx hb dX7_judge_161 hl (by decide) rfl (fun ls hl => ?_)
                          refine lv_iinc (v := nI j + 1) (lv' := [(7, .int (nI j + 1)), (6, .int b), (0, .ref (a 0)), (1, .int model), (2, .int limit), (3, .int (nI q)), (4, .int (nI q0)), (5, .int mr)]) hx hb dX7_judge_163 hl (k := 7) rfl rfl (by decide) rfl (fun ls hl => ?_)
                          refine lv_goto (tgt := 104) hx hb dX7_judge_166 (by decide) ?_
                          rw [nI_1] at hl
                          exact ih104 (j := j + 1) (b := b) (ls := ls) ⟨by omega, by rw [← h104_1, jlL]; simp only [if_neg c_23, if_neg c_24, if_pos c_25], h104_2, lv_sub hl [2, 3, 4, 5, 6, 7, 1, 0] rfl⟩
                        · refine lv_iload hx hb dX7_judge_154 (lv_at hl 7 rfl) ?_
                          refine lv_goto (tgt := 161) hx hb dX7_judge_156 (by decide) ?_
                          refine lv_istore (lv' := [(6, .int (nI j)), (0, .ref (a 0)), (1, .int model), (2, .int limit), (3, .int (nI q)), (4, .int (nI q0)), (5, .int mr), (7, .int (nI j))]) hx hb dX7_judge_161 hl (by decide) rfl (fun ls hl => ?_)
                          refine lv_iinc (v := nI j + 1) (lv' := [(7, .int (nI j + 1)), (6, .int (nI j)), (0, .ref (a 0)), (1, .int model), (2, .int limit), (3, .int (nI q)), (4, .int (nI q0)), (5, .int mr)]) hx hb dX7_judge_163 hl (k := 7) rfl rfl (by decide) rfl (fun ls hl => ?_)
                          refine lv_goto (tgt := 104) hx hb dX7_judge_166 (by decide) ?_
                          rw [nI_1] at hl
                          exact ih104 (j := j + 1) (b := (nI j)) (ls := ls) ⟨by omega, by rw [← h104_1, jlL]; simp only [if_neg c_23, if_neg c_24, if_neg c_25], Or.inr ⟨j, by omega, rfl, c_23⟩, lv_sub hl [2, 3, 4, 5, 6, 7, 1, 0] rfl⟩
          · refine lv_ldc hx hb hown (hW _ (wa tw728 rfl)) dX7_judge_78 ?_
            have hb_0 : (f7_judge_Z Z Y N q0 model limit) = Z := (by simp only [f7_judge, f7_judge_Z, f7_judge_Y, if_neg c_1, if_neg c_2, if_pos c_4])
            have hb_1 : (f7_judge_Y Z Y N q0 model limit) = f7_lay (Z 0) Y model (nI q0) (ntOf model) N := (by simp only [f7_judge, f7_judge_Z, f7_judge_Y, if_neg c_1, if_neg c_2, if_pos c_4])
            have hP9 : va_P D vwCl ((wZ a C (f7_judge_Z Z Y N q0 model limit) (f7_judge_Y Z Y N q0 model limit))) H := by rw [hb_0, hb_1]; exact hP
            have hD9 : va_D A ((wZ a C (f7_judge_Z Z Y N q0 model limit) (f7_judge_Y Z Y N q0 model limit))) := by rw [hb_0, hb_1]; exact hD
            exact W.iret (v := (-100003)) hx hb hr (fun t ht _ => ⟨⟨_, (), rfl, (by simp only [f7_judge, f7_judge_Z, f7_judge_Y, if_neg c_1, if_neg c_2, if_pos c_4]), ⟨by rw [ht]; exact hP9, by rw [hAe]; exact hD9⟩⟩, hS.F ht⟩) hS.2.2 dX7_judge_80
        · exact absurd (q_le hN rfl (by omega) (by omega)) c_3
      | succ n27 ih27 =>
        obtain ⟨h27_0, h27_1, hl⟩ := hinv
        refine lv_iload hx hb dX7_judge_27 (lv_at hl 4 rfl) ?_
        refine lv_aload_n hx hb dX7_judge_29 rfl (lv_at hl 0 rfl) ?_
        refine va_get (D := D) (ci := 7) (C := RX7) (T := TX7) (N := 23) hx hb hW inX7 hown hK hP 0 rfl rfl 0 (by decide) (hW _ (wa tw550 rfl)) (fun _ h9 => h9) rfl dX7_judge_30 ?_
        refine lv_icmp_ge (tgt := 63) hx hb dX7_judge_33 (by decide) (fun c_26 => ?_) (fun c_26 => ?_)
        · exact absurd c_26 (q_nle hN rfl (by omega) (by omega))
        · refine lv_iload_n hx hb dX7_judge_36 rfl (lv_at hl 3 rfl) ?_
          refine lv_aload_n hx hb dX7_judge_37 rfl (lv_at hl 0 rfl) ?_
          refine va_get (D := D) (ci := 7) (C := RX7) (T := TX7) (N := 23) hx hb hW inX7 hown hK hP 0 rfl rfl 3 (by decide) (hW _ (wa tw553 rfl)) (fun _ h9 => h9) rfl dX7_judge_38 ?_
          refine lv_iload hx hb dX7_judge_41 (lv_at hl 4 rfl) ?_
          refine xzald hx hb hK hP 3 rfl k rfl (by omega) (by decide) dX7_judge_43 ?_
          refine lv_if_eq (tgt := 51) hx hb dX7_judge_44 (by decide) (fun c_27 => ?_) (fun c_27 => ?_)
          · refine lv_iconst (v := 1) hx hb dX7_judge_51 (by decide) ?_
            refine lv_iload hx hb dX7_judge_52 (lv_at hl 4 rfl) ?_
            refine lv_ishl hx hb dX7_judge_54 ?_
            refine lv_ior hx hb dX7_judge_55 ?_
            refine lv_istore_n (lv' := [(3, .int (x ||| ((1 : Int32) <<< ((nI k) &&& 31)))), (0, .ref (a 0)), (1, .int model), (2, .int limit), (4, .int (nI k))]) hx hb dX7_judge_56 rfl hl (by decide) rfl (fun ls hl => ?_)
            refine lv_iinc (v := nI k + 1) (lv' := [(4, .int (nI k + 1)), (3, .int (x ||| ((1 : Int32) <<< ((nI k) &&& 31)))), (0, .ref (a 0)), (1, .int model), (2, .int limit)]) hx hb dX7_judge_57 hl (k := 4) rfl rfl (by decide) rfl (fun ls hl => ?_)
            refine lv_goto (tgt := 27) hx hb dX7_judge_60 (by decide) ?_
            rw [nI_1] at hl
            exact ih27 (k := k + 1) (x := (x ||| ((1 : Int32) <<< ((nI k) &&& 31)))) (ls := ls) ⟨by omega, by rw [← h27_1, jsL, if_pos c_27], lv_sub hl [2, 3, 4, 1, 0] rfl⟩
          · refine lv_iconst (v := 0) hx hb dX7_judge_47 (by decide) ?_
            refine lv_goto (tgt := 55) hx hb dX7_judge_48 (by decide) ?_
            refine lv_ior hx hb dX7_judge_55 ?_
            refine lv_istore_n (lv' := [(3, .int (x ||| 0)), (0, .ref (a 0)), (1, .int model), (2, .int limit), (4, .int (nI k))]) hx hb dX7_judge_56 rfl hl (by decide) rfl (fun ls hl => ?_)
            refine lv_iinc (v := nI k + 1) (lv' := [(4, .int (nI k + 1)), (3, .int (x ||| 0)), (0, .ref (a 0)), (1, .int model), (2, .int limit)]) hx hb dX7_judge_57 hl (k := 4) rfl rfl (by decide) rfl (fun ls hl => ?_)
            refine lv_goto (tgt := 27) hx hb dX7_judge_60 (by decide) ?_
            rw [nI_1] at hl
            exact ih27 (k := k + 1) (x := (x ||| 0)) (ls := ls) ⟨by omega, by rw [← h27_1, jsL, if_neg c_27], lv_sub hl [2, 3, 4, 1, 0] rfl⟩
    · refine lv_ldc hx hb hown (hW _ (wa tw631 rfl)) dX7_judge_19 ?_
      have hb_0 : (f7_judge_Z Z Y N q0 model limit) = Z := (by simp only [f7_judge, f7_judge_Z, f7_judge_Y, if_neg c_1, if_pos c_2])
      have hb_1 : (f7_judge_Y Z Y N q0 model limit) = Y := (by simp only [f7_judge, f7_judge_Z, f7_judge_Y, if_neg c_1, if_pos c_2])
      have hP9 : va_P D vwCl ((wZ a C (f7_judge_Z Z Y N q0 model limit) (f7_judge_Y Z Y N q0 model limit))) s.heap := by rw [hb_0, hb_1]; exact hP
      have hD9 : va_D A ((wZ a C (f7_judge_Z Z Y N q0 model limit) (f7_judge_Y Z Y N q0 model limit))) := by rw [hb_0, hb_1]; exact hD
      exact W.iret (v := (-100002)) hx hb hr (fun t ht _ => ⟨⟨_, (), rfl, (by simp only [f7_judge, f7_judge_Z, f7_judge_Y, if_neg c_1, if_pos c_2]), ⟨by rw [ht]; exact hP9, by rw [hAe]; exact hD9⟩⟩, hS.F ht⟩) hS.2.2 dX7_judge_21
