/-! marks: what is asked of them -/
theorem mark_in {M Z : Nat → Nat → Int32} {N : Nat} (hN : N ≤ 12) (hM : M 6 0 = nI N) (hZ : Z 12 0 = nI N) (x : Int32) : f2_has M x = 0 ↔ f7_isMark Z x = 0 := by
  have e : (Z 12 0 - 1).toInt64.toInt = (N : Int) - 1 := by rw [hZ, Int32.toInt_toInt64, q_pred (by omega)]
  have k := q_in (v := x.toInt64) (lo := 0) (hi := (Z 12 0 - 1).toInt64)
  rw [e, Int32.toInt_toInt64, show (0 : Int64).toInt = 0 from rfl] at k
  have a1 := Int32.lt_iff_toInt_lt (x := x) (y := 0)
  have a2 := Int32.le_iff_toInt_le (x := nI N) (y := x)
  rw [nI_toInt (by omega)] at a2
  rw [show (0 : Int32).toInt = 0 from rfl] at a1
  constructor
  · intro q
    refine Classical.byContradiction (fun z => ?_)
    have kk := k.mp z
    unfold f2_has at q
    rw [if_neg (fun w => by have := a1.mp w; omega), hM, if_neg (fun w => by have := a2.mp w; omega)] at q
    exact absurd q (by decide)
  · intro q
    unfold f2_has
    by_cases w1 : x < 0
    · rw [if_pos w1]
    · rw [if_neg w1, hM]
      by_cases w2 : nI N ≤ x
      · rw [if_pos w2]
      · exact absurd q (k.mpr ⟨by have : ¬ x.toInt < 0 := fun z => w1 (a1.mpr z); omega, by have : ¬ (N : Int) ≤ x.toInt := fun z => w2 (a2.mpr z); omega⟩)
def cN (N lm : Nat) : Nat := adf (2 ^ N - 1) lm
def cC (N lm om : Nat) : Nat := adf (cN N lm) om
theorem pow_pos' (N : Nat) : 0 < 2 ^ N := Nat.two_pow_pos N
theorem cN_lt (N lm : Nat) : cN N lm < 2 ^ N := adf_lt (by have := pow_pos' N; omega)
theorem cC_lt (N lm om : Nat) : cC N lm om < 2 ^ N := adf_lt (cN_lt N lm)
theorem cN_tb {N lm j : Nat} (hN : N ≤ 12) (hj : j < N) : (cN N lm).testBit j = !lm.testBit j := by
  unfold cN
  rw [adf_tb _ _ _ (by omega), Nat.testBit_two_pow_sub_one]
  simp [hj]
theorem cC_tb {N lm om j : Nat} (hN : N ≤ 12) (hj : j < N) : (cC N lm om).testBit j = (!lm.testBit j && !om.testBit j) := by
  unfold cC
  rw [adf_tb _ _ _ (by omega), cN_tb hN hj]
theorem notLost_eq {M Z : Nat → Nat → Int32} {N lm om : Nat} (h : SimM M Z N lm om) : f2_notLost M = nI (cN N lm) := by
  obtain ⟨hN, hM, -, hl, -⟩ := h.1
  have hp : 2 ^ N ≤ 4096 := (Nat.pow_le_pow_right (by decide) hN : 2 ^ N ≤ 2 ^ 12)
  have h0 := pow_pos' N
  unfold f2_notLost cN
  rw [hM, hl, q_shl1 N (by omega), show nI (2 ^ N) - 1 = nI (2 ^ N - 1) from pk_sub (b := 1) (by omega), g_andn (by omega)]
theorem counting_eq {M Z : Nat → Nat → Int32} {N lm om : Nat} (h : SimM M Z N lm om) : f2_counting M = nI (cC N lm om) := by
  unfold f2_counting cC
  rw [notLost_eq h, h.1.2.2.2.2.1, g_andn (lt4096 (cN_lt N lm) h.1.1)]
theorem counts_iff {M Z : Nat → Nat → Int32} {N lm om : Nat} (h : SimM M Z N lm om) {k : Nat} (hk : k < N) : f7_counts Z k = 0 ↔ (!lm.testBit k && !om.testBit k) = false := by
  obtain ⟨a, b⟩ := h.2.2.2.1 k hk
  unfold f7_counts
  rw [a, b]
  cases lm.testBit k <;> cases om.testBit k <;> decide
theorem counting7_eq {M Z : Nat → Nat → Int32} {N lm om : Nat} (h : SimM M Z N lm om) : f7_counting Z N = nI (cC N lm om) := by
  rw [g_counting h.1.1 (fun k hk => counts_iff h hk)]
  congr 1
  refine tb_ext (n := N) (mkm_lt _ _) (cC_lt N lm om) (fun j hj => ?_)
  rw [mkm_tb, cC_tb h.1.1 hj]
  simp [hj]
theorem model_in (model : Int32) : f6_outside model 0 2 = 0 ↔ ¬ f7_isModel model = 0 := oi rfl rfl
theorem model_n {model : Int32} (h : ¬ f6_outside model 0 2 = 0) : f7_isModel model = 0 := Classical.byContradiction (fun q => h ((model_in model).mpr q))
theorem sim_det {M Z : Nat → Nat → Int32} {N lm om : Nat} (h : SimM M Z N lm om) (F Y : Nat → Nat → Int64) (fm model : Int32) : f6_det M F fm N model = f7_det Z Y N model := by
  unfold f6_det f7_det
  by_cases q : f6_outside model 0 2 = 0
  · have k := (model_in model).mp q
    rw [if_pos q, if_neg k, counting_eq h, counting7_eq h]
    exact (rel_det h (q_model k) (lt4096 (cC_lt N lm om) h.1.1) F Y).2.symm
  · rw [if_neg q, if_pos (model_n q)]
theorem ok_iff (F : Nat → Nat → Int64) : f1_ok F = 0 ↔ F 0 12 = 0 := by
  unfold f1_ok
  by_cases q : F 0 12 = 0
  · rw [if_pos q]; exact ⟨fun _ => q, fun _ => rfl⟩
  · rw [if_neg q]; exact ⟨fun z => absurd z (by decide), fun z => absurd z q⟩
/-- the checks of fit, rest, spread -/
theorem outF {model way what : Int32} : f6_outsideFit model way what = 0 ↔ f6_outside model 0 2 = 0 ∧ f6_outside way 0 1 = 0 ∧ f6_outside what 0 1 = 0 := by
  unfold f6_outsideFit
  by_cases q1 : f6_outside model 0 2 = 0
  · rw [if_pos q1]
    by_cases q2 : f6_outside way 0 1 = 0
    · rw [if_pos q2]
      by_cases q3 : f6_outside what 0 1 = 0
      · rw [if_pos q3]; exact ⟨fun _ => ⟨q1, q2, q3⟩, fun _ => rfl⟩
      · rw [if_neg q3]; exact ⟨fun z => absurd z (by decide), fun z => absurd z.2.2 q3⟩
    · rw [if_neg q2]; exact ⟨fun z => absurd z (by decide), fun z => absurd z.2.1 q2⟩
  · rw [if_neg q1]; exact ⟨fun z => absurd z (by decide), fun z => absurd z.1 q1⟩
theorem sim_rest {M Z : Nat → Nat → Int32} {N lm om : Nat} (h : SimM M Z N lm om) (F Y : Nat → Nat → Int64) (fm model way x what : Int32) : f6_rest M F fm N model way x what = f7_rest Z Y N model way x what := by
  obtain ⟨hN, hM, hZ, hl, ho, hlm, hom⟩ := h.1
  have hx := mark_in hN hM hZ x
  unfold f6_rest f7_rest
  by_cases q0 : f2_has M x = 0
  · rw [if_pos q0, if_pos (hx.mp q0)]
  · have k0 : ¬ f7_isMark Z x = 0 := fun z => q0 (hx.mpr z)
    rw [if_neg q0, if_neg k0]
    obtain ⟨j, hj, e⟩ := q_has hM hN q0
    subst e
    have hc := cC_lt N lm om
    have h4 := lt4096 hc hN
    by_cases q1 : f6_outsideFit model way what = 0
    · obtain ⟨m1, w1, a1⟩ := outF.mp q1
      have km := (model_in model).mp m1
      have kw := oi_p (a := 0) (b := 1) rfl rfl w1
      have ka := oi_p (a := 0) (b := 1) rfl rfl a1
      rw [if_pos q1, if_neg km, if_neg kw, if_neg ka, counting_eq h, counting7_eq h, ix_nI (by omega)]
      have hlost := h.2.2.2.1 j hj
      have hin := g_isIn (s := lm) (k := j) (lt4096 hlm hN) (by omega)
      rw [hl]
      rcases q_way q1 with rfl | rfl
      · have fit := rel_fit h (q_model km) h4 (w := 0) (by decide) F Y
        rw [show ix 0 = 0 from rfl]
        by_cases q2 : f6_isIn (nI lm) (nI j) = 0
        · rw [if_pos q2]
          have hz : Z 2 j = 0 := by rw [hlost.1, hin.mp q2]; rfl
          by_cases q3 : f1_ok (f1_make M N model (nI (cC N lm om)) F) = 0
          · rw [if_pos q3]
            have hd := (ok_iff _).mp q3
            rw [if_pos (by rw [fit.1.2]; exact hd)]
          · rw [if_neg q3, if_pos rfl]
            have hd : ¬ f7_findFit (Z 0) (Z 1) Y model 0 (nI (cC N lm om)) (ntOf model) N 5 0 = 0 := by rw [fit.1.2]; exact fun z => q3 ((ok_iff _).mpr z)
            rw [if_neg hd, if_pos hz, share_eq what hd, rel_rest h (q_model km) (w := 0) (by decide) hj fit.2.2 fit.1.2, fit.1.2]
        · rw [if_neg q2]
          have hz : ¬ Z 2 j = 0 := by
            rw [hlost.1]
            cases hb : lm.testBit j
            · exact absurd (hin.mpr hb) q2
            · decide
          by_cases q3 : f7_findFit (Z 0) (Z 1) Y model 0 (nI (cC N lm om)) (ntOf model) N 5 0 = 0
          · rw [if_pos q3]
          · rw [if_neg q3, if_neg hz]
      · have fit := rel_fit h (q_model km) h4 (w := 1) (by decide) F Y
        rw [show ix 1 = 1 from rfl]
        by_cases q2 : f6_isIn (nI lm) (nI j) = 0
        · rw [if_pos q2]
          have hz : Z 2 j = 0 := by rw [hlost.1, hin.mp q2]; rfl
          by_cases q3 : f1_ok (f1_make M N model (nI (cC N lm om)) F) = 0
          · rw [if_pos q3]
            have hd := (ok_iff _).mp q3
            rw [if_pos (by rw [fit.1.2]; exact hd)]
          · rw [if_neg q3, if_neg (by decide)]
            have hd : ¬ f7_findFit (Z 0) (Z 1) Y model 1 (nI (cC N lm om)) (ntOf model) N 5 0 = 0 := by rw [fit.1.2]; exact fun z => q3 ((ok_iff _).mpr z)
            rw [if_neg hd, if_pos hz, share_eq what hd, rel_rest h (q_model km) (w := 1) (by decide) hj fit.2.2 fit.1.2, fit.1.2]
        · rw [if_neg q2]
          have hz : ¬ Z 2 j = 0 := by
            rw [hlost.1]
            cases hb : lm.testBit j
            · exact absurd (hin.mpr hb) q2
            · decide
          by_cases q3 : f7_findFit (Z 0) (Z 1) Y model 1 (nI (cC N lm om)) (ntOf model) N 5 0 = 0
          · rw [if_pos q3]
          · rw [if_neg q3, if_neg hz]
    · rw [if_neg q1]
      by_cases m1 : f6_outside model 0 2 = 0
      · rw [if_neg ((model_in model).mp m1)]
        by_cases w1 : f6_outside way 0 1 = 0
        · rw [if_neg (oi_p (a := 0) (b := 1) rfl rfl w1)]
          rw [if_pos (oi_n (a := 0) (b := 1) rfl rfl (fun z => q1 (outF.mpr ⟨m1, w1, z⟩)))]
        · rw [if_pos (oi_n (a := 0) (b := 1) rfl rfl w1)]
      · rw [if_pos (model_n m1)]
