/-! fit, told -/
theorem term_in {model t : Int32} : f6_outside t 0 (f6_lastTerm model) = 0 ↔ ¬ f7_in t.toInt64 0 ((f7_termsOf model - 1).toInt64) = 0 := by
  refine oi rfl ?_
  rw [Int32.toInt_toInt64]
  unfold f7_termsOf f6_lastTerm
  by_cases q : model = 0
  · rw [if_pos q, if_pos q]; rfl
  · rw [if_neg q, if_neg q]; rfl
theorem fac3 {S s : Nat → Int64} (h : RelS S s) {k : Nat} (hk : k < 3) : S k = s k := by
  rcases (show k = 0 ∨ k = 1 ∨ k = 2 by omega) with rfl | rfl | rfl
  · exact h.1
  · exact h.2.1
  · exact h.2.2
theorem sim_fit {M Z : Nat → Nat → Int32} {N lm om : Nat} (h : SimM M Z N lm om) (F Y : Nat → Nat → Int64) (fm model way t what : Int32) : f6_fit M F fm N model way t what = f7_fit Z Y N model way t what := by
  obtain ⟨hN, hM, hZ, hl, ho, hlm, hom⟩ := h.1
  unfold f6_fit f7_fit
  have h4 := lt4096 (cC_lt N lm om) hN
  by_cases q1 : f6_outsideFit model way what = 0
  · obtain ⟨m1, w1, a1⟩ := outF.mp q1
    have km := (model_in model).mp m1
    have kw := oi_p (a := 0) (b := 1) rfl rfl w1
    have ka := oi_p (a := 0) (b := 1) rfl rfl a1
    rw [if_pos q1, if_neg km, if_neg kw]
    by_cases q2 : f6_outside t 0 (f6_lastTerm model) = 0
    · rw [if_pos q2, if_neg (term_in.mp q2), if_neg ka, counting_eq h, counting7_eq h]
      obtain ⟨k, hk, e⟩ := q_lastT q2
      subst e
      rw [ix_nI (by omega)]
      rcases q_way q1 with rfl | rfl
      · have fit := rel_fit h (q_model km) h4 (w := 0) (by decide) F Y
        rw [show ix 0 = 0 from rfl]
        by_cases q3 : f1_ok (f1_make M N model (nI (cC N lm om)) F) = 0
        · rw [if_pos q3, if_pos (by rw [fit.1.2]; exact (ok_iff _).mp q3)]
        · have hd : ¬ f7_findFit (Z 0) (Z 1) Y model 0 (nI (cC N lm om)) (ntOf model) N 5 0 = 0 := by rw [fit.1.2]; exact fun z => q3 ((ok_iff _).mpr z)
          rw [if_neg q3, if_pos rfl, if_neg hd, share_eq what hd, fac3 fit.2.2 hk, fit.1.2]
      · have fit := rel_fit h (q_model km) h4 (w := 1) (by decide) F Y
        rw [show ix 1 = 1 from rfl]
        by_cases q3 : f1_ok (f1_make M N model (nI (cC N lm om)) F) = 0
        · rw [if_pos q3, if_pos (by rw [fit.1.2]; exact (ok_iff _).mp q3)]
        · have hd : ¬ f7_findFit (Z 0) (Z 1) Y model 1 (nI (cC N lm om)) (ntOf model) N 5 0 = 0 := by rw [fit.1.2]; exact fun z => q3 ((ok_iff _).mpr z)
          rw [if_neg q3, if_neg (by decide), if_neg hd, share_eq what hd, fac3 fit.2.2 hk, fit.1.2]
    · rw [if_neg q2, if_pos (Classical.byContradiction (fun z => q2 (term_in.mpr z)))]
  · rw [if_neg q1]
    by_cases m1 : f6_outside model 0 2 = 0
    · rw [if_neg ((model_in model).mp m1)]
      by_cases w1 : f6_outside way 0 1 = 0
      · rw [if_neg (oi_p (a := 0) (b := 1) rfl rfl w1)]
        by_cases t1 : f7_in t.toInt64 0 ((f7_termsOf model - 1).toInt64) = 0
        · rw [if_pos t1]
        · rw [if_neg t1, if_pos (oi_n (a := 0) (b := 1) rfl rfl (fun z => q1 (outF.mpr ⟨m1, w1, z⟩)))]
      · rw [if_pos (oi_n (a := 0) (b := 1) rfl rfl w1)]
    · rw [if_pos (model_n m1)]
theorem tb_row {b : Bool} : (if b then (1 : Int32) else 0) = 0 ↔ b = false := by cases b <;> decide
theorem sim_told {M Z : Nat → Nat → Int32} {N lm om : Nat} (h : SimM M Z N lm om) (x what : Int32) : f6_told M x what = f7_told Z x what := by
  obtain ⟨hN, hM, hZ, hl, ho, hlm, hom⟩ := h.1
  have hx := mark_in hN hM hZ x
  unfold f6_told f7_told
  by_cases q0 : f2_has M x = 0
  · rw [if_pos q0, if_pos (hx.mp q0)]
  · have k0 : ¬ f7_isMark Z x = 0 := fun z => q0 (hx.mpr z)
    rw [if_neg q0, if_neg k0]
    obtain ⟨j, hj, e⟩ := q_has hM hN q0
    subst e
    rw [ix_nI (by omega), hl, ho]
    obtain ⟨p0, p1, p2, p3⟩ := h.2.1 j hj
    obtain ⟨r0, r1⟩ := h.2.2.1 j hj
    obtain ⟨z2, z3⟩ := h.2.2.2.1 j hj
    have i2 := g_isIn (s := lm) (k := j) (lt4096 hlm hN) (by omega)
    have i3 := g_isIn (s := om) (k := j) (lt4096 hom hN) (by omega)
    by_cases c0 : what = 0
    · subst c0; exact p0.symm
    by_cases c1 : what = 1
    · subst c1; exact p1.symm
    by_cases c2 : what = 2
    · subst c2; exact p2.symm
    by_cases c3 : what = 3
    · subst c3; exact p3.symm
    by_cases c4 : what = 4
    · subst c4
      show M 4 j = Z 1 (2 * j + 4 - 4)
      rw [show 2 * j + 4 - 4 = 2 * j by omega, r0]
    by_cases c5 : what = 5
    · subst c5
      show M 5 j = Z 1 (2 * j + 5 - 4)
      rw [show 2 * j + 5 - 4 = 2 * j + 1 by omega, r1]
    by_cases c6 : what = 6
    · subst c6
      show (if f6_isIn (nI lm) (nI j) = 0 then 0 else 1) = (if Z 2 j = 0 then (0 : Int32) else 1)
      rw [z2]
      cases hb : lm.testBit j
      · rw [if_pos (i2.mpr hb)]; rfl
      · rw [if_neg (fun z => by rw [i2.mp z] at hb; cases hb)]; rfl
    by_cases c7 : what = 7
    · subst c7
      show (if f6_isIn (nI om) (nI j) = 0 then 0 else 1) = (if Z 3 j = 0 then (0 : Int32) else 1)
      rw [z3]
      cases hb : om.testBit j
      · rw [if_pos (i3.mpr hb)]; rfl
      · rw [if_neg (fun z => by rw [i3.mp z] at hb; cases hb)]; rfl
    rw [if_neg c0, if_neg c1, if_neg c2, if_neg c3, if_neg c4, if_neg c5, if_neg c6, if_neg c7]
    rw [if_pos (show f7_in what.toInt64 0 7 = 0 from Classical.byContradiction (fun z => by
      obtain ⟨i, hi, e⟩ := q_inC (n := 8) rfl (by decide) z
      subst e
      rcases (show i = 0 ∨ i = 1 ∨ i = 2 ∨ i = 3 ∨ i = 4 ∨ i = 5 ∨ i = 6 ∨ i = 7 by omega) with rfl | rfl | rfl | rfl | rfl | rfl | rfl | rfl
      · exact c0 rfl
      · exact c1 rfl
      · exact c2 rfl
      · exact c3 rfl
      · exact c4 rfl
      · exact c5 rfl
      · exact c6 rfl
      · exact c7 rfl))]
