/-! spread, bad -/
theorem sq_eq {M Z : Nat → Nat → Int32} {N lm om : Nat} (h : SimM M Z N lm om) (model : Int32) {w : Nat} (hw : w < 2) : ∀ (n j : Nat) (x : Int64) (S : Nat → Int64), j + n = N → x = S 3 → sqL Z w n j x = msL (M (4 + w)) M model (nI (cC N lm om)) n j S 3
  | 0, _, _, _, _, e => e
  | n + 1, j, x, S, e, hx => by
    have hN := h.1.1
    have hi := g_isIn (s := cC N lm om) (k := j) (lt4096 (cC_lt N lm om) hN) (by omega)
    rw [cC_tb hN (by omega)] at hi
    have hc := counts_iff h (k := j) (by omega)
    rw [sqL, msL]
    refine sq_eq h model hw n (j + 1) _ _ (by omega) ?_
    by_cases q : f6_isIn (nI (cC N lm om)) (nI j) = 0
    · rw [if_pos q, if_pos (hc.mpr (hi.mp q)), hx]
      simp
    · rw [if_neg q, if_neg (fun z => q (hi.mpr (hc.mp z))), (ms4_at _ _ _ _).2.2.2, read_w h hw (by omega), hx]
theorem sp_eq {fac sid f s T : Nat → Int64} {q d : Int64} (hF : RelS fac f) (hS : RelS sid s) (hq : q = s 3) (hd : d = T 12) : spL fac sid 3 0 (q * d) = f1_sq T s f := by
  obtain ⟨a0, a1, a2⟩ := hF
  obtain ⟨b0, b1, b2⟩ := hS
  show q * d - fac 0 * sid 0 - fac 1 * sid 1 - fac 2 * sid 2 = _
  unfold f1_sq
  rw [a0, a1, a2, b0, b1, b2, hq, hd]
theorem sim_spread {M Z : Nat → Nat → Int32} {N lm om : Nat} (h : SimM M Z N lm om) (F Y : Nat → Nat → Int64) (fm model way what : Int32) : f6_spread M F fm N model way what = f7_spread Z Y N model way what := by
  obtain ⟨hN, hM, hZ, hl, ho, hlm, hom⟩ := h.1
  unfold f6_spread f7_spread
  have h4 := lt4096 (cC_lt N lm om) hN
  by_cases q1 : f6_outsideFit model way what = 0
  · obtain ⟨m1, w1, a1⟩ := outF.mp q1
    have km := (model_in model).mp m1
    have kw := oi_p (a := 0) (b := 1) rfl rfl w1
    have ka := oi_p (a := 0) (b := 1) rfl rfl a1
    rw [if_pos q1, if_neg km, if_neg kw, if_neg ka, counting_eq h, counting7_eq h]
    rcases q_way q1 with rfl | rfl
    · have fit := rel_fit h (q_model km) h4 (w := 0) (by decide) F Y
      rw [show ix 0 = 0 from rfl]
      by_cases q3 : f1_ok (f1_make M N model (nI (cC N lm om)) F) = 0
      · rw [if_pos q3, if_pos (by rw [fit.1.2]; exact (ok_iff _).mp q3)]
      · have hd : ¬ f7_findFit (Z 0) (Z 1) Y model 0 (nI (cC N lm om)) (ntOf model) N 5 0 = 0 := by rw [fit.1.2]; exact fun z => q3 ((ok_iff _).mpr z)
        rw [if_neg q3, if_pos rfl, if_neg hd, share_eq what hd, sp_eq (T := f1_make M N model (nI (cC N lm om)) F 0) fit.2.2 fit.2.1 (sq_eq h model (w := 0) (by decide) N 0 0 (ms0 (F 1)) (by omega) rfl) fit.1.2, fit.1.2]
    · have fit := rel_fit h (q_model km) h4 (w := 1) (by decide) F Y
      rw [show ix 1 = 1 from rfl]
      by_cases q3 : f1_ok (f1_make M N model (nI (cC N lm om)) F) = 0
      · rw [if_pos q3, if_pos (by rw [fit.1.2]; exact (ok_iff _).mp q3)]
      · have hd : ¬ f7_findFit (Z 0) (Z 1) Y model 1 (nI (cC N lm om)) (ntOf model) N 5 0 = 0 := by rw [fit.1.2]; exact fun z => q3 ((ok_iff _).mpr z)
        rw [if_neg q3, if_neg (by decide), if_neg hd, share_eq what hd, sp_eq (T := f1_make M N model (nI (cC N lm om)) F 0) fit.2.2 fit.2.1 (sq_eq h model (w := 1) (by decide) N 0 0 (ms0 (F 2)) (by omega) rfl) fit.1.2, fit.1.2]
  · rw [if_neg q1]
    by_cases m1 : f6_outside model 0 2 = 0
    · rw [if_neg ((model_in model).mp m1)]
      by_cases w1 : f6_outside way 0 1 = 0
      · rw [if_neg (oi_p (a := 0) (b := 1) rfl rfl w1)]
        rw [if_pos (oi_n (a := 0) (b := 1) rfl rfl (fun z => q1 (outF.mpr ⟨m1, w1, z⟩)))]
      · rw [if_pos (oi_n (a := 0) (b := 1) rfl rfl w1)]
    · rw [if_pos (model_n m1)]
/-- the marks above, as a set -/
def abP (F : Nat → Nat → Int64) (M : Nat → Nat → Int32) (model : Int32) (s : Nat) (ld : Int64) (k : Nat) : Bool := s.testBit k && !decide (f1_great F M model k ≤ ld)
theorem ab_eq {F : Nat → Nat → Int64} {M : Nat → Nat → Int32} {model : Int32} {s N : Nat} {ld : Int64} (hN : N ≤ 12) (hs : s < 4096) : ∀ (n k : Nat), k + n = N → abL F M model (nI s) ld n k (nI (mkm (abP F M model s ld) k)) = nI (mkm (abP F M model s ld) N)
  | 0, k, e => by rw [abL, show k = N by omega]
  | n + 1, k, e => by
    have ih := ab_eq (F := F) (M := M) (model := model) (ld := ld) hN hs n (k + 1) (by omega)
    have hi := g_isIn (s := s) (k := k) hs (by omega)
    have hp : abP F M model s ld k = (s.testBit k && !decide (f1_great F M model k ≤ ld)) := rfl
    rw [mkm, hp] at ih
    rw [abL]
    cases hc : s.testBit k
    · rw [if_pos (hi.mpr hc)]
      rw [hc, if_neg (by simp), Nat.or_zero] at ih
      exact ih
    · rw [if_neg (show ¬ f6_isIn (nI s) (nI k) = 0 from fun q => by rw [hi.mp q] at hc; cases hc)]
      rw [hc] at ih
      by_cases q : f1_great F M model k ≤ ld
      · rw [if_pos q]
        rw [decide_eq_true q, if_neg (by simp), Nat.or_zero] at ih
        exact ih
      · rw [if_neg q, q_shl1 k (by omega), g_or]
        rw [decide_eq_false q] at ih
        exact ih
theorem bd_eq {F : Nat → Nat → Int64} {M : Nat → Nat → Int32} {model : Int32} {s N : Nat} {ld : Int64} {V : Nat → Int64} (hN : N ≤ 12) (h0 : 0 ≤ ld.toInt) (hV : ∀ j, j < N → V j = if s.testBit j then f1_great F M model j else -1) : ∀ (n k : Nat), k + n = N → bdL V ld n k (nI (mkm (abP F M model s ld) k)) = nI (mkm (abP F M model s ld) N)
  | 0, k, e => by rw [bdL, show k = N by omega]
  | n + 1, k, e => by
    have ih := bd_eq (F := F) (M := M) (model := model) (ld := ld) hN h0 hV n (k + 1) (by omega)
    have hp : abP F M model s ld k = (s.testBit k && !decide (f1_great F M model k ≤ ld)) := rfl
    have hm : (-1 : Int64) ≤ ld := Int64.le_iff_toInt_le.mpr (by rw [m1_I]; omega)
    rw [mkm, hp] at ih
    rw [bdL, hV k (by omega)]
    cases hc : s.testBit k
    · rw [hc] at ih
      rw [if_neg (show ¬ false = true by decide), if_pos hm, show (0 : Int32) = nI 0 from rfl, g_or]
      exact ih
    · rw [hc] at ih
      rw [if_pos rfl]
      by_cases q : f1_great F M model k ≤ ld
      · rw [if_pos q, show (0 : Int32) = nI 0 from rfl, g_or]
        rw [decide_eq_true q] at ih
        exact ih
      · rw [if_neg q, q_shl1 k (by omega), g_or]
        rw [decide_eq_false q] at ih
        exact ih
theorem sim_bad {M Z : Nat → Nat → Int32} {N lm om : Nat} (h : SimM M Z N lm om) (F Y : Nat → Nat → Int64) (fm model limit what : Int32) : f6_bad M F fm N model limit what = f7_bad Z Y N model limit what := by
  obtain ⟨hN, hM, hZ, hl, ho, hlm, hom⟩ := h.1
  unfold f6_bad f7_bad
  have h4 := lt4096 (cC_lt N lm om) hN
  by_cases q1 : f6_outside model 0 2 = 0
  · have k1 := (model_in model).mp q1
    rw [if_pos q1, if_neg k1]
    by_cases q2 : f6_outside limit 0 999 = 0
    · have k2 := oi_p (a := 0) (b := 999) rfl rfl q2
      rw [if_pos q2, if_neg k2]
      by_cases q3 : f6_outside what 0 2 = 0
      · have k3 := oi_p (a := 0) (b := 2) rfl rfl q3
        rw [if_pos q3, if_neg k3, counting_eq h, counting7_eq h]
        obtain ⟨d, wv⟩ := worst_at h (q_model k1) h4 F Y
        rw [d]
        have hl2 := q_out.mp q2
        have l0 : 0 ≤ limit.toInt := hl2.1
        have l9 : limit.toInt ≤ 999 := hl2.2
        have h0 := ld_I h model (nI (cC N lm om)) F l0 l9
        have e1 : bdL (f7_findWorst (Z 0) (Z 1) Y model (nI (cC N lm om)) (ntOf model) N 4) (limit.toInt64 * f1_make M N model (nI (cC N lm om)) F 0 12) N 0 0 = _ := bd_eq (F := f1_make M N model (nI (cC N lm om)) F) (M := M) (model := model) (s := cC N lm om) hN h0 wv N 0 (by omega)
        have e2 : f1_above (f1_make M N model (nI (cC N lm om)) F) M model N (nI (cC N lm om)) limit = _ := ab_eq (F := f1_make M N model (nI (cC N lm om)) F) (M := M) (model := model) (s := cC N lm om) (ld := limit.toInt64 * f1_make M N model (nI (cC N lm om)) F 0 12) hN h4 N 0 (by omega)
        rw [e1, e2]
        have h5 := lt4096 (mkm_lt (abP (f1_make M N model (nI (cC N lm om)) F) M model (cC N lm om) (limit.toInt64 * f1_make M N model (nI (cC N lm om)) F 0 12)) N) hN
        rw [g_bc h5, fields_eq h h5, fields_eq h h4]
        by_cases q4 : f1_ok (f1_make M N model (nI (cC N lm om)) F) = 0
        · rw [if_pos q4, if_pos ((ok_iff _).mp q4)]
        · rw [if_neg q4, if_neg (fun z => q4 ((ok_iff _).mpr z))]
      · have k3 := oi_n (a := 0) (b := 2) rfl rfl q3
        rw [if_neg q3, if_pos k3]
    · have k2 := oi_n (a := 0) (b := 999) rfl rfl q2
      rw [if_neg q2, if_pos k2]
  · rw [if_neg q1, if_pos (model_n q1)]
